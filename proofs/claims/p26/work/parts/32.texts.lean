abbrev lo_rm_texts : Room := { frames := 8, cells := 2145, slots := 52665, locals := 240 }
theorem kw_texts_told {args : Array Value} {s : State} (hts : ∀ w ∈ wsL_texts, w.before args s = true) : CallB lo_rm_texts s args RL 125 yL_told cL_told 6 (some .int) wsL_told lo_rm_told 143 3511 2 ∧ (Cond.static yL_told).before args s = true := cwS 2 hts gL_texts_L_told rfl rfl rfl (by decide +kernel) ⟨Nat.le_of_ble_eq_true rfl, Nat.le_of_ble_eq_true rfl⟩
theorem kw_texts_type {args : Array Value} {s : State} (hts : ∀ w ∈ wsL_texts, w.before args s = true) : CallW lo_rm_texts s args RL RX7 72 yX7_type cX7_type 2 (some .int) wsX7_type ({ frames := 1, cells := 0, slots := 0, locals := 30 }) 0 0 1 := cwV 1 hts gL_texts_X7_type rfl rfl rfl (by decide +kernel) ⟨Nat.le_of_ble_eq_true rfl, Nat.le_of_ble_eq_true rfl⟩
theorem kw_texts_takeBook {args : Array Value} {s : State} (hts : ∀ w ∈ wsL_texts, w.before args s = true) : CallW lo_rm_texts s args RL RX7 97 yX7_takeBook cX7_takeBook 2 (some .int) wsX7_takeBook ({ frames := 5, cells := 0, slots := 0, locals := 150 }) 0 0 0 := cwV 0 hts gL_texts_X7_takeBook rfl rfl rfl (by decide +kernel) ⟨Nat.le_of_ble_eq_true rfl, Nat.le_of_ble_eq_true rfl⟩
theorem kw_texts_count {args : Array Value} {s : State} (hts : ∀ w ∈ wsL_texts, w.before args s = true) : CallW lo_rm_texts s args RL RX7 13 yX7_count cX7_count 2 (some .int) wsX7_count ({ frames := 6, cells := 0, slots := 0, locals := 180 }) 0 0 1 := cwV 1 hts gL_texts_X7_count rfl rfl rfl (by decide +kernel) ⟨Nat.le_of_ble_eq_true rfl, Nat.le_of_ble_eq_true rfl⟩
theorem kw_texts_clearText {args : Array Value} {s : State} (hts : ∀ w ∈ wsL_texts, w.before args s = true) : CallW lo_rm_texts s args RL RX7 116 yX7_clearText cX7_clearText 2 (some .int) wsX7_clearText ({ frames := 0, cells := 0, slots := 0, locals := 0 }) 0 0 0 := cwV 0 hts gL_texts_X7_clearText rfl rfl rfl (by decide +kernel) ⟨Nat.le_of_ble_eq_true rfl, Nat.le_of_ble_eq_true rfl⟩
theorem ix_texts : ∀ w ∈ wsX70, w ∈ wsL_texts := by decide +kernel
section LOJ
set_option maxHeartbeats 4000000 in
set_option maxRecDepth 100000 in
theorem texts_1 {p : Program} {l : Launch} {e : Env} {s : State} {m : MethodId} {args : Array Value} {below : List Frame} {meth : Method} {c : Code} {Q : State → Prop} {A : Nat → Prop} {D : va_G} {yI yC yO : ClassId} (hB : lo_B p s m args c cL_texts 2 wsL_texts D yI yC yO A) {h : Nat} {Ad : Nat → Nat → Nat} (kk : ∀ (H : Heap) (locs : List Loc) (ls : Array Slot), lo_I D yI yC yO A s.heap h Ad tx_s8 H locs → lv_has ls 2 [(0, .ref h)] → W p l e lo_rm_texts s m args below meth c H locs 2145 52665 Q (F0 m 350 ls [.int 1])) :
    ∀ (H : Heap) (locs : List Loc) (ls : Array Slot), lo_I D yI yC yO A s.heap h Ad tx_q H locs → lv_has ls 2 [(0, .ref h)] → W p l e lo_rm_texts s m args below meth c H locs 2145 52665 Q (F0 m 235 ls []) := by
  intro H locs ls hI hl
  obtain ⟨u, hP, hD, hS⟩ := hI
  have hx := hB.1.1
  have hb := hB.1.2.1
  have hown := hB.1.2.2.2.1
  have hts := hB.1.2.2.2.2
  refine lv_aload_n hx hb dL_texts_235 rfl (lv_at hl 0 rfl) ?_
  refine lv_bipush (v := 49) hx hb dL_texts_236 (by decide) ?_
  refine lo_call (As := [.int 49]) (v := 59) (σ' := tx_s1) hB (lo_c_type l D yI yC yO h Ad tx_q u 49 _) (kw_texts_type hts) rfl hl.1 rfl (Nat.le_of_ble_eq_true rfl) dL_texts_238 (Nat.le_of_ble_eq_true rfl) (Nat.le_of_ble_eq_true rfl) tx_a1 rfl hP hD hS (fun u H locs hP hD hS => ?_)
  refine lv_bipush (v := 59) hx hb dL_texts_241 (by decide) ?_
  refine lv_icmp_ne (tgt := 308) hx hb dL_texts_243 (by decide) (fun q => absurd rfl q) (fun _ => ?_)
  refine lv_aload_n hx hb dL_texts_246 rfl (lv_at hl 0 rfl) ?_
  refine lo_call (As := []) (v := 30) (σ' := tx_s2) hB (lo_c_takeBook l D yI yC yO h Ad tx_s1 u _ tx_z2) (kw_texts_takeBook hts) rfl hl.1 rfl (Nat.le_of_ble_eq_true rfl) dL_texts_247 (Nat.le_of_ble_eq_true rfl) (Nat.le_of_ble_eq_true rfl) tx_a2 rfl hP hD hS (fun u H locs hP hD hS => ?_)
  refine lv_bipush (v := 30) hx hb dL_texts_250 (by decide) ?_
  refine lv_icmp_ne (tgt := 308) hx hb dL_texts_252 (by decide) (fun q => absurd rfl q) (fun _ => ?_)
  refine lv_aload_n hx hb dL_texts_255 rfl (lv_at hl 0 rfl) ?_
  refine lv_bipush (v := 44) hx hb dL_texts_256 (by decide) ?_
  refine lo_call (As := [.int 44]) (v := 60) (σ' := tx_s3) hB (lo_c_type l D yI yC yO h Ad tx_s2 u 44 _) (kw_texts_type hts) rfl hl.1 rfl (Nat.le_of_ble_eq_true rfl) dL_texts_258 (Nat.le_of_ble_eq_true rfl) (Nat.le_of_ble_eq_true rfl) tx_a3 rfl hP hD hS (fun u H locs hP hD hS => ?_)
  refine lv_bipush (v := 60) hx hb dL_texts_261 (by decide) ?_
  refine lv_icmp_ne (tgt := 308) hx hb dL_texts_263 (by decide) (fun q => absurd rfl q) (fun _ => ?_)
  refine lv_aload_n hx hb dL_texts_266 rfl (lv_at hl 0 rfl) ?_
  refine lo_call (As := []) (v := (-159)) (σ' := tx_s4) hB (lo_c_takeBook l D yI yC yO h Ad tx_s3 u _ tx_z4) (kw_texts_takeBook hts) rfl hl.1 rfl (Nat.le_of_ble_eq_true rfl) dL_texts_267 (Nat.le_of_ble_eq_true rfl) (Nat.le_of_ble_eq_true rfl) tx_a4 rfl hP hD hS (fun u H locs hP hD hS => ?_)
  refine lv_sipush (v := (-159)) hx hb dL_texts_270 (by decide) ?_
  refine lv_icmp_ne (tgt := 308) hx hb dL_texts_273 (by decide) (fun q => absurd rfl q) (fun _ => ?_)
  refine lv_aload_n hx hb dL_texts_276 rfl (lv_at hl 0 rfl) ?_
  refine lv_bipush (v := 49) hx hb dL_texts_277 (by decide) ?_
  refine lo_call (As := [.int 49]) (v := (-3)) (σ' := tx_s5) hB (lo_c_type l D yI yC yO h Ad tx_s4 u 49 _) (kw_texts_type hts) rfl hl.1 rfl (Nat.le_of_ble_eq_true rfl) dL_texts_279 (Nat.le_of_ble_eq_true rfl) (Nat.le_of_ble_eq_true rfl) tx_a5 rfl hP hD hS (fun u H locs hP hD hS => ?_)
  refine lv_bipush (v := (-3)) hx hb dL_texts_282 (by decide) ?_
  refine lv_icmp_ne (tgt := 308) hx hb dL_texts_284 (by decide) (fun q => absurd rfl q) (fun _ => ?_)
  refine lv_aload_n hx hb dL_texts_287 rfl (lv_at hl 0 rfl) ?_
  refine lv_iconst (v := 0) hx hb dL_texts_288 (by decide) ?_
  refine lo_call (As := [.int 0]) (v := 30) (σ' := tx_s5) hB (lo_c_count l D yI yC yO h Ad tx_s5 u 0 _) (kw_texts_count hts) rfl hl.1 rfl (Nat.le_of_ble_eq_true rfl) dL_texts_289 (Nat.le_of_ble_eq_true rfl) (Nat.le_of_ble_eq_true rfl) tx_a6 rfl hP hD hS (fun u H locs hP hD hS => ?_)
  refine lv_bipush (v := 30) hx hb dL_texts_292 (by decide) ?_
  refine lv_icmp_ne (tgt := 308) hx hb dL_texts_294 (by decide) (fun q => absurd rfl q) (fun _ => ?_)
  refine lv_aload_n hx hb dL_texts_297 rfl (lv_at hl 0 rfl) ?_
  refine lv_bipush (v := 16) hx hb dL_texts_298 (by decide) ?_
  refine lo_call (As := [.int 16]) (v := 60) (σ' := tx_s5) hB (lo_c_count l D yI yC yO h Ad tx_s5 u 16 _) (kw_texts_count hts) rfl hl.1 rfl (Nat.le_of_ble_eq_true rfl) dL_texts_300 (Nat.le_of_ble_eq_true rfl) (Nat.le_of_ble_eq_true rfl) tx_a7 rfl hP hD hS (fun u H locs hP hD hS => ?_)
  refine lv_bipush (v := 60) hx hb dL_texts_303 (by decide) ?_
  refine lv_icmp_eq (tgt := 310) hx hb dL_texts_305 (by decide) (fun _ => ?_) (fun q => absurd (by decide) q)
  refine lv_aload_n hx hb dL_texts_310 rfl (lv_at hl 0 rfl) ?_
  refine lo_call (As := []) (v := 60) (σ' := tx_s6) hB (lo_c_clearText l D yI yC yO h Ad tx_s5 u _) (kw_texts_clearText hts) rfl hl.1 rfl (Nat.le_of_ble_eq_true rfl) dL_texts_311 (Nat.le_of_ble_eq_true rfl) (Nat.le_of_ble_eq_true rfl) tx_a8 rfl hP hD hS (fun u H locs hP hD hS => ?_)
  refine lv_bipush (v := 60) hx hb dL_texts_314 (by decide) ?_
  refine lv_icmp_ne (tgt := 349) hx hb dL_texts_316 (by decide) (fun q => absurd rfl q) (fun _ => ?_)
  refine lv_aload_n hx hb dL_texts_319 rfl (lv_at hl 0 rfl) ?_
  refine lo_call (As := []) (v := (-100)) (σ' := tx_s7) hB (lo_c_takeBook l D yI yC yO h Ad tx_s6 u _ tx_z9) (kw_texts_takeBook hts) rfl hl.1 rfl (Nat.le_of_ble_eq_true rfl) dL_texts_320 (Nat.le_of_ble_eq_true rfl) (Nat.le_of_ble_eq_true rfl) tx_a9 rfl hP hD hS (fun u H locs hP hD hS => ?_)
  refine lv_bipush (v := (-100)) hx hb dL_texts_323 (by decide) ?_
  refine lv_icmp_ne (tgt := 349) hx hb dL_texts_325 (by decide) (fun q => absurd rfl q) (fun _ => ?_)
  refine lv_aload_n hx hb dL_texts_328 rfl (lv_at hl 0 rfl) ?_
  refine lo_call (As := []) (v := 0) (σ' := tx_s8) hB (lo_c_clearText l D yI yC yO h Ad tx_s7 u _) (kw_texts_clearText hts) rfl hl.1 rfl (Nat.le_of_ble_eq_true rfl) dL_texts_329 (Nat.le_of_ble_eq_true rfl) (Nat.le_of_ble_eq_true rfl) tx_a10 rfl hP hD hS (fun u H locs hP hD hS => ?_)
  refine lv_if_ne (tgt := 349) hx hb dL_texts_332 (by decide) (fun q => absurd rfl q) (fun _ => ?_)
  refine lv_aload_n hx hb dL_texts_335 rfl (lv_at hl 0 rfl) ?_
  refine lv_iconst (v := 0) hx hb dL_texts_336 (by decide) ?_
  refine lo_call (As := [.int 0]) (v := 30) (σ' := tx_s8) hB (lo_c_count l D yI yC yO h Ad tx_s8 u 0 _) (kw_texts_count hts) rfl hl.1 rfl (Nat.le_of_ble_eq_true rfl) dL_texts_337 (Nat.le_of_ble_eq_true rfl) (Nat.le_of_ble_eq_true rfl) tx_a11 rfl hP hD hS (fun u H locs hP hD hS => ?_)
  refine lv_bipush (v := 30) hx hb dL_texts_340 (by decide) ?_
  refine lv_icmp_ne (tgt := 349) hx hb dL_texts_342 (by decide) (fun q => absurd rfl q) (fun _ => ?_)
  refine lv_iconst (v := 1) hx hb dL_texts_345 (by decide) ?_
  refine lv_goto (tgt := 350) hx hb dL_texts_346 (by decide) ?_
  exact kk _ _ _ ⟨u, hP, hD, hS⟩ hl

set_option maxHeartbeats 4000000 in
set_option maxRecDepth 100000 in
theorem texts_loop {p : Program} {l : Launch} {e : Env} {s : State} {m : MethodId} {args : Array Value} {below : List Frame} {meth : Method} {c : Code} {Q : State → Prop} {A : Nat → Prop} {D : va_G} {yI yC yO : ClassId} (hB : lo_B p s m args c cL_texts 2 wsL_texts D yI yC yO A) {h : Nat} {Ad : Nat → Nat → Nat} (kk : ∀ (H : Heap) (locs : List Loc) (ls : Array Slot), lo_I D yI yC yO A s.heap h Ad tx_q H locs → lv_has ls 2 [(0, .ref h)] → W p l e lo_rm_texts s m args below meth c H locs 2145 52665 Q (F0 m 235 ls [])) :
    ∀ (n k : Nat), k + n = 29 → ∀ (H : Heap) (locs : List Loc) (ls : Array Slot), lo_I D yI yC yO A s.heap h Ad (lo_st k) H locs → lv_has ls 2 [(1, .int (nI k)), (0, .ref h)] → W p l e lo_rm_texts s m args below meth c H locs 2145 52665 Q (F0 m 180 ls []) := by
  have hx := hB.1.1
  have hb := hB.1.2.1
  have hts := hB.1.2.2.2.2
  intro n
  induction n with
  | zero =>
    intro k hk H locs ls hI hl
    obtain rfl : k = 29 := by omega
    refine lv_iload_n hx hb dL_texts_180 rfl (lv_at hl 0 rfl) ?_
    refine lv_bipush (v := 29) hx hb dL_texts_181 (by decide) ?_
    exact lv_icmp_ge (tgt := 235) hx hb dL_texts_183 (by decide) (fun _ => kk H locs ls hI (lv_sub hl [1] rfl)) (fun q => absurd (show (29 : Int32) ≤ nI 29 by decide) q)
  | succ n ih =>
    intro k hk H locs ls hI hl
    obtain ⟨f1, f2, f3, f4⟩ := lo_stf k (by omega)
    obtain ⟨u, hP, hD, hS⟩ := hI
    refine lv_iload_n hx hb dL_texts_180 rfl (lv_at hl 0 rfl) ?_
    refine lv_bipush (v := 29) hx hb dL_texts_181 (by decide) ?_
    refine lv_icmp_ge (tgt := 235) hx hb dL_texts_183 (by decide) (fun q => absurd q (nI_ge (a := k) (b := 29) (by omega) (by decide))) (fun _ => ?_)
    refine lv_aload_n hx hb dL_texts_186 rfl (lv_at hl 1 rfl) ?_
    refine lv_bipush (v := 49) hx hb dL_texts_187 (by decide) ?_
    refine lo_call (As := [.int 49]) (v := 2 * nI k + 1) (σ' := (lo_type (lo_st k) 49).2) hB (lo_c_type l D yI yC yO h Ad (lo_st k) u 49 _) (kw_texts_type hts) rfl hl.1 rfl (Nat.le_of_ble_eq_true rfl) dL_texts_189 (Nat.le_of_ble_eq_true rfl) (Nat.le_of_ble_eq_true rfl) f1 rfl hP hD hS (fun u H locs hP hD hS => ?_)
    refine lv_iconst (v := 2) hx hb dL_texts_192 (by decide) ?_
    refine lv_iload_n hx hb dL_texts_193 rfl (lv_at hl 0 rfl) ?_
    refine lv_imul hx hb dL_texts_194 ?_
    refine lv_iconst (v := 1) hx hb dL_texts_195 (by decide) ?_
    refine lv_iadd hx hb dL_texts_196 ?_
    refine lv_icmp_ne (tgt := 227) hx hb dL_texts_197 (by decide) (fun q => absurd rfl q) (fun _ => ?_)
    refine lv_aload_n hx hb dL_texts_200 rfl (lv_at hl 1 rfl) ?_
    refine lv_bipush (v := 44) hx hb dL_texts_201 (by decide) ?_
    refine lo_call (As := [.int 44]) (v := 2 * nI k + 2) (σ' := (lo_type (lo_type (lo_st k) 49).2 44).2) hB (lo_c_type l D yI yC yO h Ad ((lo_type (lo_st k) 49).2) u 44 _) (kw_texts_type hts) rfl hl.1 rfl (Nat.le_of_ble_eq_true rfl) dL_texts_203 (Nat.le_of_ble_eq_true rfl) (Nat.le_of_ble_eq_true rfl) f2 rfl hP hD hS (fun u H locs hP hD hS => ?_)
    refine lv_iconst (v := 2) hx hb dL_texts_206 (by decide) ?_
    refine lv_iload_n hx hb dL_texts_207 rfl (lv_at hl 0 rfl) ?_
    refine lv_imul hx hb dL_texts_208 ?_
    refine lv_iconst (v := 2) hx hb dL_texts_209 (by decide) ?_
    refine lv_iadd hx hb dL_texts_210 ?_
    refine lv_icmp_ne (tgt := 227) hx hb dL_texts_211 (by decide) (fun q => absurd rfl q) (fun _ => ?_)
    refine lv_aload_n hx hb dL_texts_214 rfl (lv_at hl 1 rfl) ?_
    refine lo_call (As := []) (v := (-102) - 2 * nI k) (σ' := lo_st (k + 1)) hB (lo_c_takeBook l D yI yC yO h Ad ((lo_type (lo_type (lo_st k) 49).2 44).2) u _ (Or.inl f4)) (kw_texts_takeBook hts) rfl hl.1 rfl (Nat.le_of_ble_eq_true rfl) dL_texts_215 (Nat.le_of_ble_eq_true rfl) (Nat.le_of_ble_eq_true rfl) f3 rfl hP hD hS (fun u H locs hP hD hS => ?_)
    refine lv_bipush (v := (-102)) hx hb dL_texts_218 (by decide) ?_
    refine lv_iconst (v := 2) hx hb dL_texts_220 (by decide) ?_
    refine lv_iload_n hx hb dL_texts_221 rfl (lv_at hl 0 rfl) ?_
    refine lv_imul hx hb dL_texts_222 ?_
    refine lv_isub hx hb dL_texts_223 ?_
    refine lv_icmp_eq (tgt := 229) hx hb dL_texts_224 (by decide) (fun _ => ?_) (fun q => absurd rfl q)
    refine lv_iinc (v := nI k + 1) (lv' := [(1, .int (nI k + 1)), (0, .ref h)]) hx hb dL_texts_229 hl (k := 0) rfl rfl (by decide) rfl (fun ls hl => ?_)
    refine lv_goto (tgt := 180) hx hb dL_texts_232 (by decide) ?_
    rw [nI_1] at hl
    exact ih (k + 1) (by omega) _ _ _ ⟨u, hP, hD, hS⟩ hl
end LOJ
set_option maxHeartbeats 4000000 in
set_option maxRecDepth 100000 in
theorem lo_c_texts (l : Launch) (D : va_G) (yI yC yO : ClassId) (sz : Nat) : Met l yL_texts wsL_texts lo_rm_texts (va_Pc [] (lo_M D yI yC yO ([] : va_W) sz)) (lo_Q D 1 (fun (_ : Unit) => ([] : va_W)) (va_A ([] : va_W) sz)) 2145 52665 (va_A ([] : va_W) sz) := by
  refine Met.ofW (cc := cL_texts) (maxL := 2) (ret := (some .boolean)) (by decide) rfl ?_
  intro p e s m args below meth c s₁ B0 hml hv
  obtain ⟨rfl, hM⟩ := hv
  have hB : lo_B p s m _ c cL_texts 2 wsL_texts D yI yC yO (va_A ([] : va_W) sz) := lo_B.of B0.exec B0.bytes hml (findClass_of_methodNamed B0.named) (atoms_spec (ws := wsL_texts) B0.pre) hM
  obtain ⟨hP, hD, hS⟩ := hM.S
  have hx := hB.1.1
  have hb := hB.1.2.1
  have hown := hB.1.2.2.2.1
  have hts := hB.1.2.2.2.2
  have hret := B0.returns
  have hlocks := B0.notSynchronized
  have hl := lv_entry ([] : List Value) (n := 2) (Nat.le_of_ble_eq_true rfl)
  rw [lg_entry_eq]
  generalize (lg_sl ([] : List Value) ++ List.replicate (2 - (lg_sl ([] : List Value)).length) Slot.unset).toArray = ls at hl ⊢
  have hl : lv_has ls 2 [] := hl
  generalize hAe : va_A ([] : va_W) sz = A at hB hD hS ⊢
  refine lv_ldc2 (v := 48) hx hb hown (hts (.constantLong RL 123 48) (by decide +kernel)) dL_texts_0 ?_
  refine lv_lconst (v := 0) hx hb dL_texts_3 (by decide) ?_
  refine lo_callS (mc := 143) (ms := 3511) (wr := []) (As := [.long 48, .long 0]) (r := (-100)) (Wo := fun (_ : Unit) => ([] : va_W)) hB (lo_c_toldN l D yI yC yO 48 0 (-100) _ tl_a1 tl_b1 tl_z1 tl_c1 (by decide) tl_d1 tl_e1) (kw_texts_told hts) rfl hl.1 rfl (Nat.le_of_ble_eq_true rfl) dL_texts_4 (Nat.le_of_ble_eq_true rfl) (Nat.le_of_ble_eq_true rfl) hP hD hS (fun _ H locs hP hD hS => ?_)
  refine lv_bipush (v := (-100)) hx hb dL_texts_7 (by decide) ?_
  refine lv_icmp_ne (tgt := 84) hx hb dL_texts_9 (by decide) (fun q => absurd rfl q) (fun _ => ?_)
  refine lv_ldc2 (v := 3240752) hx hb hown (hts (.constantLong RL 129 3240752) (by decide +kernel)) dL_texts_12 ?_
  refine lv_lconst (v := 0) hx hb dL_texts_15 (by decide) ?_
  refine lo_callS (mc := 143) (ms := 3511) (wr := []) (As := [.long 3240752, .long 0]) (r := (-102)) (Wo := fun (_ : Unit) => ([] : va_W)) hB (lo_c_toldN l D yI yC yO 3240752 0 (-102) _ tl_a2 tl_b2 tl_z2 tl_c2 (by decide) tl_d2 tl_e2) (kw_texts_told hts) rfl hl.1 rfl (Nat.le_of_ble_eq_true rfl) dL_texts_16 (Nat.le_of_ble_eq_true rfl) (Nat.le_of_ble_eq_true rfl) hP hD hS (fun _ H locs hP hD hS => ?_)
  refine lv_bipush (v := (-102)) hx hb dL_texts_19 (by decide) ?_
  refine lv_icmp_ne (tgt := 84) hx hb dL_texts_21 (by decide) (fun q => absurd rfl q) (fun _ => ?_)
  refine lv_ldc2 (v := 3222049) hx hb hown (hts (.constantLong RL 131 3222049) (by decide +kernel)) dL_texts_24 ?_
  refine lv_lconst (v := 0) hx hb dL_texts_27 (by decide) ?_
  refine lo_callS (mc := 143) (ms := 3511) (wr := []) (As := [.long 3222049, .long 0]) (r := (-102)) (Wo := fun (_ : Unit) => ([] : va_W)) hB (lo_c_toldN l D yI yC yO 3222049 0 (-102) _ tl_a3 tl_b3 tl_z3 tl_c3 (by decide) tl_d3 tl_e3) (kw_texts_told hts) rfl hl.1 rfl (Nat.le_of_ble_eq_true rfl) dL_texts_28 (Nat.le_of_ble_eq_true rfl) (Nat.le_of_ble_eq_true rfl) hP hD hS (fun _ H locs hP hD hS => ?_)
  refine lv_bipush (v := (-102)) hx hb dL_texts_31 (by decide) ?_
  refine lv_icmp_ne (tgt := 84) hx hb dL_texts_33 (by decide) (fun q => absurd rfl q) (fun _ => ?_)
  refine lv_ldc2 (v := 12659) hx hb hown (hts (.constantLong RL 133 12659) (by decide +kernel)) dL_texts_36 ?_
  refine lv_lconst (v := 0) hx hb dL_texts_39 (by decide) ?_
  refine lo_callS (mc := 143) (ms := 3511) (wr := []) (As := [.long 12659, .long 0]) (r := (-102)) (Wo := fun (_ : Unit) => ([] : va_W)) hB (lo_c_toldN l D yI yC yO 12659 0 (-102) _ tl_a4 tl_b4 tl_z4 tl_c4 (by decide) tl_d4 tl_e4) (kw_texts_told hts) rfl hl.1 rfl (Nat.le_of_ble_eq_true rfl) dL_texts_40 (Nat.le_of_ble_eq_true rfl) (Nat.le_of_ble_eq_true rfl) hP hD hS (fun _ H locs hP hD hS => ?_)
  refine lv_bipush (v := (-102)) hx hb dL_texts_43 (by decide) ?_
  refine lv_icmp_ne (tgt := 84) hx hb dL_texts_45 (by decide) (fun q => absurd rfl q) (fun _ => ?_)
  refine lv_ldc2 (v := 12594) hx hb hown (hts (.constantLong RL 135 12594) (by decide +kernel)) dL_texts_48 ?_
  refine lv_lconst (v := 0) hx hb dL_texts_51 (by decide) ?_
  refine lo_callS (mc := 143) (ms := 3511) (wr := []) (As := [.long 12594, .long 0]) (r := (-101)) (Wo := fun (_ : Unit) => ([] : va_W)) hB (lo_c_toldN l D yI yC yO 12594 0 (-101) _ tl_a5 tl_b5 tl_z5 tl_c5 (by decide) tl_d5 tl_e5) (kw_texts_told hts) rfl hl.1 rfl (Nat.le_of_ble_eq_true rfl) dL_texts_52 (Nat.le_of_ble_eq_true rfl) (Nat.le_of_ble_eq_true rfl) hP hD hS (fun _ H locs hP hD hS => ?_)
  refine lv_bipush (v := (-101)) hx hb dL_texts_55 (by decide) ?_
  refine lv_icmp_ne (tgt := 84) hx hb dL_texts_57 (by decide) (fun q => absurd rfl q) (fun _ => ?_)
  refine lv_ldc2 (v := 212386261548) hx hb hown (hts (.constantLong RL 137 212386261548) (by decide +kernel)) dL_texts_60 ?_
  refine lv_lconst (v := 0) hx hb dL_texts_63 (by decide) ?_
  refine lo_callS (mc := 143) (ms := 3511) (wr := []) (As := [.long 212386261548, .long 0]) (r := (-105)) (Wo := fun (_ : Unit) => ([] : va_W)) hB (lo_c_toldN l D yI yC yO 212386261548 0 (-105) _ tl_a6 tl_b6 tl_z6 tl_c6 (by decide) tl_d6 tl_e6) (kw_texts_told hts) rfl hl.1 rfl (Nat.le_of_ble_eq_true rfl) dL_texts_64 (Nat.le_of_ble_eq_true rfl) (Nat.le_of_ble_eq_true rfl) hP hD hS (fun _ H locs hP hD hS => ?_)
  refine lv_bipush (v := (-105)) hx hb dL_texts_67 (by decide) ?_
  refine lv_icmp_ne (tgt := 84) hx hb dL_texts_69 (by decide) (fun q => absurd rfl q) (fun _ => ?_)
  refine lv_ldc2 (v := 44) hx hb hown (hts (.constantLong RL 139 44) (by decide +kernel)) dL_texts_72 ?_
  refine lv_lconst (v := 0) hx hb dL_texts_75 (by decide) ?_
  refine lo_callS (mc := 143) (ms := 3511) (wr := []) (As := [.long 44, .long 0]) (r := (-100)) (Wo := fun (_ : Unit) => ([] : va_W)) hB (lo_c_toldN l D yI yC yO 44 0 (-100) _ tl_a7 tl_b7 tl_z7 tl_c7 (by decide) tl_d7 tl_e7) (kw_texts_told hts) rfl hl.1 rfl (Nat.le_of_ble_eq_true rfl) dL_texts_76 (Nat.le_of_ble_eq_true rfl) (Nat.le_of_ble_eq_true rfl) hP hD hS (fun _ H locs hP hD hS => ?_)
  refine lv_bipush (v := (-100)) hx hb dL_texts_79 (by decide) ?_
  refine lv_icmp_eq (tgt := 86) hx hb dL_texts_81 (by decide) (fun _ => ?_) (fun q => absurd (by decide) q)
  refine lv_lconst (v := 0) hx hb dL_texts_86 (by decide) ?_
  refine lv_lconst (v := 0) hx hb dL_texts_87 (by decide) ?_
  refine lo_callS (mc := 143) (ms := 3511) (wr := []) (As := [.long 0, .long 0]) (r := (-100)) (Wo := fun (_ : Unit) => ([] : va_W)) hB (lo_c_toldN l D yI yC yO 0 0 (-100) _ tl_a8 tl_b8 tl_z8 tl_c8 (by decide) tl_d8 tl_e8) (kw_texts_told hts) rfl hl.1 rfl (Nat.le_of_ble_eq_true rfl) dL_texts_88 (Nat.le_of_ble_eq_true rfl) (Nat.le_of_ble_eq_true rfl) hP hD hS (fun _ H locs hP hD hS => ?_)
  refine lv_bipush (v := (-100)) hx hb dL_texts_91 (by decide) ?_
  refine lv_icmp_ne (tgt := 168) hx hb dL_texts_93 (by decide) (fun q => absurd rfl q) (fun _ => ?_)
  refine lv_ldc2 (v := 57) hx hb hown (hts (.constantLong RL 141 57) (by decide +kernel)) dL_texts_96 ?_
  refine lv_lconst (v := 0) hx hb dL_texts_99 (by decide) ?_
  refine lo_callS (mc := 143) (ms := 3511) (wr := []) (As := [.long 57, .long 0]) (r := 1) (Wo := fun (_ : Unit) => ([] : va_W)) hB (lo_c_toldP l D yI yC yO 57 0 1 _ tl_a9 tl_b9 tl_z9 tl_c9 (by decide) tl_d9 tl_e9) (kw_texts_told hts) rfl hl.1 rfl (Nat.le_of_ble_eq_true rfl) dL_texts_100 (Nat.le_of_ble_eq_true rfl) (Nat.le_of_ble_eq_true rfl) hP hD hS (fun _ H locs hP hD hS => ?_)
  refine lv_iconst (v := 1) hx hb dL_texts_103 (by decide) ?_
  refine lv_icmp_ne (tgt := 168) hx hb dL_texts_104 (by decide) (fun q => absurd rfl q) (fun _ => ?_)
  refine lv_ldc2 (v := 3563254544818383404) hx hb hown (hts (.constantLong RL 143 3563254544818383404) (by decide +kernel)) dL_texts_107 ?_
  refine lv_ldc2 (v := 51) hx hb hown (hts (.constantLong RL 145 51) (by decide +kernel)) dL_texts_110 ?_
  refine lo_callS (mc := 143) (ms := 3511) (wr := []) (As := [.long 3563254544818383404, .long 51]) (r := 3) (Wo := fun (_ : Unit) => ([] : va_W)) hB (lo_c_toldP l D yI yC yO 3563254544818383404 51 3 _ tl_a10 tl_b10 tl_z10 tl_c10 (by decide) tl_d10 tl_e10) (kw_texts_told hts) rfl hl.1 rfl (Nat.le_of_ble_eq_true rfl) dL_texts_113 (Nat.le_of_ble_eq_true rfl) (Nat.le_of_ble_eq_true rfl) hP hD hS (fun _ H locs hP hD hS => ?_)
  refine lv_iconst (v := 3) hx hb dL_texts_116 (by decide) ?_
  refine lv_icmp_ne (tgt := 168) hx hb dL_texts_117 (by decide) (fun q => absurd rfl q) (fun _ => ?_)
  refine lv_ldc2 (v := 29489) hx hb hown (hts (.constantLong RL 147 29489) (by decide +kernel)) dL_texts_120 ?_
  refine lv_lconst (v := 0) hx hb dL_texts_123 (by decide) ?_
  refine lo_callS (mc := 143) (ms := 3511) (wr := []) (As := [.long 29489, .long 0]) (r := (-100)) (Wo := fun (_ : Unit) => ([] : va_W)) hB (lo_c_toldN l D yI yC yO 29489 0 (-100) _ tl_a11 tl_b11 tl_z11 tl_c11 (by decide) tl_d11 tl_e11) (kw_texts_told hts) rfl hl.1 rfl (Nat.le_of_ble_eq_true rfl) dL_texts_124 (Nat.le_of_ble_eq_true rfl) (Nat.le_of_ble_eq_true rfl) hP hD hS (fun _ H locs hP hD hS => ?_)
  refine lv_bipush (v := (-100)) hx hb dL_texts_127 (by decide) ?_
  refine lv_icmp_ne (tgt := 168) hx hb dL_texts_129 (by decide) (fun q => absurd rfl q) (fun _ => ?_)
  refine lv_ldc2 (v := 824275762) hx hb hown (hts (.constantLong RL 149 824275762) (by decide +kernel)) dL_texts_132 ?_
  refine lv_lconst (v := 0) hx hb dL_texts_135 (by decide) ?_
  refine lo_callS (mc := 143) (ms := 3511) (wr := []) (As := [.long 824275762, .long 0]) (r := (-102)) (Wo := fun (_ : Unit) => ([] : va_W)) hB (lo_c_toldN l D yI yC yO 824275762 0 (-102) _ tl_a12 tl_b12 tl_z12 tl_c12 (by decide) tl_d12 tl_e12) (kw_texts_told hts) rfl hl.1 rfl (Nat.le_of_ble_eq_true rfl) dL_texts_136 (Nat.le_of_ble_eq_true rfl) (Nat.le_of_ble_eq_true rfl) hP hD hS (fun _ H locs hP hD hS => ?_)
  refine lv_bipush (v := (-102)) hx hb dL_texts_139 (by decide) ?_
  refine lv_icmp_ne (tgt := 168) hx hb dL_texts_141 (by decide) (fun q => absurd rfl q) (fun _ => ?_)
  refine lv_ldc2 (v := 3419180) hx hb hown (hts (.constantLong RL 151 3419180) (by decide +kernel)) dL_texts_144 ?_
  refine lv_lconst (v := 0) hx hb dL_texts_147 (by decide) ?_
  refine lo_callS (mc := 143) (ms := 3511) (wr := []) (As := [.long 3419180, .long 0]) (r := (-102)) (Wo := fun (_ : Unit) => ([] : va_W)) hB (lo_c_toldN l D yI yC yO 3419180 0 (-102) _ tl_a13 tl_b13 tl_z13 tl_c13 (by decide) tl_d13 tl_e13) (kw_texts_told hts) rfl hl.1 rfl (Nat.le_of_ble_eq_true rfl) dL_texts_148 (Nat.le_of_ble_eq_true rfl) (Nat.le_of_ble_eq_true rfl) hP hD hS (fun _ H locs hP hD hS => ?_)
  refine lv_bipush (v := (-102)) hx hb dL_texts_151 (by decide) ?_
  refine lv_icmp_ne (tgt := 168) hx hb dL_texts_153 (by decide) (fun q => absurd rfl q) (fun _ => ?_)
  refine lv_ldc2 (v := 896742709) hx hb hown (hts (.constantLong RL 153 896742709) (by decide +kernel)) dL_texts_156 ?_
  refine lv_lconst (v := 0) hx hb dL_texts_159 (by decide) ?_
  refine lo_callS (mc := 143) (ms := 3511) (wr := []) (As := [.long 896742709, .long 0]) (r := (-103)) (Wo := fun (_ : Unit) => ([] : va_W)) hB (lo_c_toldN l D yI yC yO 896742709 0 (-103) _ tl_a14 tl_b14 tl_z14 tl_c14 (by decide) tl_d14 tl_e14) (kw_texts_told hts) rfl hl.1 rfl (Nat.le_of_ble_eq_true rfl) dL_texts_160 (Nat.le_of_ble_eq_true rfl) (Nat.le_of_ble_eq_true rfl) hP hD hS (fun _ H locs hP hD hS => ?_)
  refine lv_bipush (v := (-103)) hx hb dL_texts_163 (by decide) ?_
  refine lv_icmp_eq (tgt := 170) hx hb dL_texts_165 (by decide) (fun _ => ?_) (fun q => absurd (by decide) q)
  refine lo_new (wr := []) (rest := []) hB ix_texts (by decide +kernel) (by decide +kernel) (by decide +kernel) (by decide +kernel) (by decide +kernel) gL_texts_X7_init ⟨Nat.le_of_ble_eq_true rfl, Nat.le_of_ble_eq_true rfl⟩ hl.1 (Nat.le_of_ble_eq_true rfl) dL_texts_170 dL_texts_173 dL_texts_174 (Nat.le_of_ble_eq_true rfl) (Nat.le_of_ble_eq_true rfl) hP hD hS (fun h Ad u H locs hP hD hS => ?_)
  have hP : va_P D vwCl (lo_O yI yC yO h Ad lo_t0 u) H := hP
  have hD : va_D A (lo_O yI yC yO h Ad lo_t0 u) := hD
  refine lv_astore_n (lv' := [(0, .ref h)]) hx hb dL_texts_177 rfl hl (by decide) rfl (fun ls hl => ?_)
  refine lv_iconst (v := 0) hx hb dL_texts_178 (by decide) ?_
  refine lv_istore_n (lv' := [(1, .int 0), (0, .ref h)]) hx hb dL_texts_179 rfl hl (by decide) rfl (fun ls hl => ?_)
  refine texts_loop hB (h := h) (Ad := Ad) (fun H locs ls hI hl => ?_) 29 0 (by decide) _ _ _ ⟨u, hP, hD, hS⟩ hl
  refine texts_1 hB (fun H locs ls hI hl => ?_) _ _ _ hI hl
  obtain ⟨u, hP, hD, hS⟩ := hI
  exact W.zret (v := 1) hx hb hret lt_z1 (fun t ht hW => ⟨⟨_, (), rfl, rfl, lo_P0, lo_D0⟩, hS.F ht⟩) hS.2.2 dL_texts_350

