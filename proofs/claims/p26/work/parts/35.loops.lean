abbrev lo_V (yL : ClassId) (w : Nat) (f : Nat → Int64) : va_W := [(w, .inl (yL, 64, .inr (.inl f)))]
theorem kw_law_four {args : Array Value} {s : State} (hts : ∀ w ∈ wsL_law, w.before args s = true) : CallB room_1 s args RL 155 yL_four cL_four 1 (some .boolean) wsL_four lo_rm_four 143 3511 0 ∧ (Cond.static yL_four).before args s = true := cwS 0 hts gL_law_L_four rfl rfl rfl (by decide +kernel) ⟨Nat.le_of_ble_eq_true rfl, Nat.le_of_ble_eq_true rfl⟩
theorem kw_law_scans {args : Array Value} {s : State} (hts : ∀ w ∈ wsL_law, w.before args s = true) : CallB room_1 s args RL 159 yL_scans cL_scans 4 (some .boolean) wsL_scans lo_rm_scans 429 10533 0 ∧ (Cond.static yL_scans).before args s = true := cwS 0 hts gL_law_L_scans rfl rfl rfl (by decide +kernel) ⟨Nat.le_of_ble_eq_true rfl, Nat.le_of_ble_eq_true rfl⟩
theorem kw_law_texts {args : Array Value} {s : State} (hts : ∀ w ∈ wsL_law, w.before args s = true) : CallB room_1 s args RL 162 yL_texts cL_texts 2 (some .boolean) wsL_texts lo_rm_texts 2145 52665 0 ∧ (Cond.static yL_texts).before args s = true := cwS 0 hts gL_law_L_texts rfl rfl rfl (by decide +kernel) ⟨Nat.le_of_ble_eq_true rfl, Nat.le_of_ble_eq_true rfl⟩
theorem kw_law_drawn {args : Array Value} {s : State} (hts : ∀ w ∈ wsL_law, w.before args s = true) : CallB room_1 s args RL 165 yL_drawn cL_drawn 2 (some .int) wsL_drawn lo_rm_drawn 0 0 2 ∧ (Cond.static yL_drawn).before args s = true := cwS 2 hts gL_law_L_drawn rfl rfl rfl (by decide +kernel) ⟨Nat.le_of_ble_eq_true rfl, Nat.le_of_ble_eq_true rfl⟩
theorem kw_law_part {args : Array Value} {s : State} (hts : ∀ w ∈ wsL_law, w.before args s = true) : CallB room_1 s args RL 169 yL_part cL_part 2 (some .int) wsL_part lo_rm_part 0 0 2 ∧ (Cond.static yL_part).before args s = true := cwS 2 hts gL_law_L_part rfl rfl rfl (by decide +kernel) ⟨Nat.le_of_ble_eq_true rfl, Nat.le_of_ble_eq_true rfl⟩
theorem kw_law_layBook {args : Array Value} {s : State} (hts : ∀ w ∈ wsL_law, w.before args s = true) : CallW room_1 s args RL RX7 33 yX7_layBook cX7_layBook 3 (some .int) wsX7_layBook ({ frames := 5, cells := 0, slots := 0, locals := 150 }) 0 0 2 := cwV 2 hts gL_law_X7_layBook rfl rfl rfl (by decide +kernel) ⟨Nat.le_of_ble_eq_true rfl, Nat.le_of_ble_eq_true rfl⟩
theorem kw_law_keep {args : Array Value} {s : State} (hts : ∀ w ∈ wsL_law, w.before args s = true) : CallW room_1 s args RL RX7 107 yX7_keep cX7_keep 1 (some .int) wsX7_keep ({ frames := 4, cells := 0, slots := 0, locals := 120 }) 0 0 0 := cwV 0 hts gL_law_X7_keep rfl rfl rfl (by decide +kernel) ⟨Nat.le_of_ble_eq_true rfl, Nat.le_of_ble_eq_true rfl⟩
theorem kw_law_seen {args : Array Value} {s : State} (hts : ∀ w ∈ wsL_law, w.before args s = true) : CallB room_1 s args RL 62 yL_seen cL_seen 4 (some .long) wsL_seen lo_rm_seen 0 0 1 ∧ (Cond.static yL_seen).before args s = true := cwS 1 hts gL_law_L_seen rfl rfl rfl (by decide +kernel) ⟨Nat.le_of_ble_eq_true rfl, Nat.le_of_ble_eq_true rfl⟩
theorem kw_law_count {args : Array Value} {s : State} (hts : ∀ w ∈ wsL_law, w.before args s = true) : CallW room_1 s args RL RX7 13 yX7_count cX7_count 2 (some .int) wsX7_count ({ frames := 6, cells := 0, slots := 0, locals := 180 }) 0 0 1 := cwV 1 hts gL_law_X7_count rfl rfl rfl (by decide +kernel) ⟨Nat.le_of_ble_eq_true rfl, Nat.le_of_ble_eq_true rfl⟩
theorem kw_law_turn {args : Array Value} {s : State} (hts : ∀ w ∈ wsL_law, w.before args s = true) : CallW room_1 s args RL RX7 104 yX7_turn cX7_turn 1 (some .int) wsX7_turn ({ frames := 5, cells := 0, slots := 0, locals := 150 }) 0 0 0 := cwV 0 hts gL_law_X7_turn rfl rfl rfl (by decide +kernel) ⟨Nat.le_of_ble_eq_true rfl, Nat.le_of_ble_eq_true rfl⟩
theorem kw_law_shoot {args : Array Value} {s : State} (hts : ∀ w ∈ wsL_law, w.before args s = true) : CallW room_1 s args RL RX7 83 yX7_shoot cX7_shoot 1 (some .int) wsX7_shoot ({ frames := 5, cells := 0, slots := 0, locals := 150 }) 0 0 0 := cwV 0 hts gL_law_X7_shoot rfl rfl rfl (by decide +kernel) ⟨Nat.le_of_ble_eq_true rfl, Nat.le_of_ble_eq_true rfl⟩
theorem kw_law_turnBack {args : Array Value} {s : State} (hts : ∀ w ∈ wsL_law, w.before args s = true) : CallW room_1 s args RL RX7 86 yX7_turnBack cX7_turnBack 1 (some .int) wsX7_turnBack ({ frames := 5, cells := 0, slots := 0, locals := 150 }) 0 0 0 := cwV 0 hts gL_law_X7_turnBack rfl rfl rfl (by decide +kernel) ⟨Nat.le_of_ble_eq_true rfl, Nat.le_of_ble_eq_true rfl⟩
theorem kw_law_print {args : Array Value} {s : State} (hts : ∀ w ∈ wsL_law, w.before args s = true) : CallW room_1 s args RL RX7 38 yX7_print cX7_print 4 (some .int) wsX7_print ({ frames := 5, cells := 0, slots := 0, locals := 150 }) 0 0 2 := cwV 2 hts gL_law_X7_print rfl rfl rfl (by decide +kernel) ⟨Nat.le_of_ble_eq_true rfl, Nat.le_of_ble_eq_true rfl⟩
theorem kw_law_scan {args : Array Value} {s : State} (hts : ∀ w ∈ wsL_law, w.before args s = true) : CallW room_1 s args RL RX7 41 yX7_scan cX7_scan 3 (some .int) wsX7_scan ({ frames := 6, cells := 0, slots := 0, locals := 180 }) 0 0 1 := cwV 1 hts gL_law_X7_scan rfl rfl rfl (by decide +kernel) ⟨Nat.le_of_ble_eq_true rfl, Nat.le_of_ble_eq_true rfl⟩
theorem kw_law_throwAway {args : Array Value} {s : State} (hts : ∀ w ∈ wsL_law, w.before args s = true) : CallW room_1 s args RL RX7 44 yX7_throwAway cX7_throwAway 2 (some .int) wsX7_throwAway ({ frames := 5, cells := 0, slots := 0, locals := 150 }) 0 0 1 := cwV 1 hts gL_law_X7_throwAway rfl rfl rfl (by decide +kernel) ⟨Nat.le_of_ble_eq_true rfl, Nat.le_of_ble_eq_true rfl⟩
theorem kw_law_setSuction {args : Array Value} {s : State} (hts : ∀ w ∈ wsL_law, w.before args s = true) : CallW room_1 s args RL RX7 47 yX7_setSuction cX7_setSuction 3 (some .int) wsX7_setSuction ({ frames := 5, cells := 0, slots := 0, locals := 150 }) 0 0 1 := cwV 1 hts gL_law_X7_setSuction rfl rfl rfl (by decide +kernel) ⟨Nat.le_of_ble_eq_true rfl, Nat.le_of_ble_eq_true rfl⟩
theorem kw_law_set {args : Array Value} {s : State} (hts : ∀ w ∈ wsL_law, w.before args s = true) : CallW room_1 s args RL RX7 50 yX7_set cX7_set 4 (some .int) wsX7_set ({ frames := 5, cells := 0, slots := 0, locals := 150 }) 0 0 2 := cwV 2 hts gL_law_X7_set rfl rfl rfl (by decide +kernel) ⟨Nat.le_of_ble_eq_true rfl, Nat.le_of_ble_eq_true rfl⟩
theorem kw_law_restore {args : Array Value} {s : State} (hts : ∀ w ∈ wsL_law, w.before args s = true) : CallW room_1 s args RL RX7 80 yX7_restore cX7_restore 1 (some .int) wsX7_restore ({ frames := 5, cells := 0, slots := 0, locals := 150 }) 0 0 0 := cwV 0 hts gL_law_X7_restore rfl rfl rfl (by decide +kernel) ⟨Nat.le_of_ble_eq_true rfl, Nat.le_of_ble_eq_true rfl⟩
theorem kw_law_refused {args : Array Value} {s : State} (hts : ∀ w ∈ wsL_law, w.before args s = true) : CallB room_1 s args RL 100 yL_refused cL_refused 4 (some .boolean) wsL_refused lo_rm_refused 0 0 1 ∧ (Cond.static yL_refused).before args s = true := cwS 1 hts gL_law_L_refused rfl rfl rfl (by decide +kernel) ⟨Nat.le_of_ble_eq_true rfl, Nat.le_of_ble_eq_true rfl⟩
theorem kw_law_undo {args : Array Value} {s : State} (hts : ∀ w ∈ wsL_law, w.before args s = true) : CallW room_1 s args RL RX7 77 yX7_undo cX7_undo 1 (some .int) wsX7_undo ({ frames := 5, cells := 0, slots := 0, locals := 150 }) 0 0 0 := cwV 0 hts gL_law_X7_undo rfl rfl rfl (by decide +kernel) ⟨Nat.le_of_ble_eq_true rfl, Nat.le_of_ble_eq_true rfl⟩
section LOM
variable {p : Program} {l : Launch} {e : Env} {s : State} {m : MethodId} {args : Array Value} {below : List Frame} {meth : Method} {c : Code} {Q : State → Prop} {A : Nat → Prop} {D : va_G} {yI yC yO yL : ClassId} {cells slots : Nat}
variable {h w b : Nat} {Ad : Nat → Nat → Nat} {n0 : lt_SV} {kept : Int64}
def lo_J (D : va_G) (yI yC yO yL : ClassId) (A : Nat → Prop) (H0 : Heap) (h w : Nat) (Ad : Nat → Nat → Nat) (f : Nat → Int64) (σ : lo_T) (H : Heap) (locs : List Loc) : Prop := ∃ u : lo_U, va_P D vwCl (lo_V yL w f ++ lo_O yI yC yO h Ad σ u) H ∧ va_D A (lo_V yL w f ++ lo_O yI yC yO h Ad σ u) ∧ va_S A H0 H locs
set_option maxHeartbeats 4000000 in
set_option maxRecDepth 100000 in
theorem law_chain (hB : lo_B p s m args c cL_law 12 wsL_law D yI yC yO A) (hc : cells ≤ room_1.cells) (hs : slots ≤ room_1.slots) {acts : Nat} {σ : lo_T} {f : Nat → Int64} {x3 x6 x7 x8 x9 x10 : Int32} {ls : Array Slot} (hn0 : lo_W n0.1 n0.2) (hinv : lo_inv n0 acts σ f) (hl : lv_has ls 12 [(10, .int x10), (9, .int x9), (8, .int x8), (7, .int x7), (6, .int x6), (4, .long kept), (3, .int x3), (2, .ref w), (1, .ref h), (0, .ref b)])
    (kk : ∀ (X : Int32 × lo_T), lo_act σ X → ∀ (H : Heap) (locs : List Loc), lo_J D yI yC yO yL A s.heap h w Ad f X.2 H locs → W p l e room_1 s m args below meth c H locs cells slots Q (F0 m 327 ls [.int X.1])) :
    ∀ (H : Heap) (locs : List Loc), lo_J D yI yC yO yL A s.heap h w Ad f σ H locs → W p l e room_1 s m args below meth c H locs cells slots Q (F0 m 126 ls []) := by
  intro H locs hJ
  obtain ⟨u, hP, hD, hS⟩ := hJ
  have hx := hB.1.1
  have hb := hB.1.2.1
  have hown := hB.1.2.2.2.1
  have hts := hB.1.2.2.2.2
  refine lv_iload hx hb dL_law_126 (lv_at hl 2 rfl) ?_
  refine lv_iconst (v := 4) hx hb dL_law_128 (by decide) ?_
  refine lv_icmp_ge (tgt := 139) hx hb dL_law_129 (by decide) (fun _ => ?_) (fun _ => ?_)
  rotate_left
  · refine lv_aload_n hx hb dL_law_132 rfl (lv_at hl 8 rfl) ?_
    refine lo_callr (wr := lo_V yL w f) (As := []) (X := lo_turn σ) (v := (lo_turn σ).1) (σ' := (lo_turn σ).2) hB (lo_c_turn l D yI yC yO h Ad σ u _ hinv.z) (kw_law_turn hts) rfl hl.1 rfl (Nat.le_of_ble_eq_true rfl) dL_law_133 hc hs rfl rfl hP hD hS (fun u H locs hP hD hS => ?_)
    refine lv_goto (tgt := 327) hx hb dL_law_136 (by decide) ?_
    exact kk _ (ac_turn hinv.2.2.1) H locs ⟨u, hP, hD, hS⟩
  refine lv_iload hx hb dL_law_139 (lv_at hl 2 rfl) ?_
  refine lv_bipush (v := 6) hx hb dL_law_141 (by decide) ?_
  refine lv_icmp_ge (tgt := 153) hx hb dL_law_143 (by decide) (fun _ => ?_) (fun _ => ?_)
  rotate_left
  · refine lv_aload_n hx hb dL_law_146 rfl (lv_at hl 8 rfl) ?_
    refine lo_callr (wr := lo_V yL w f) (As := []) (X := lo_shoot σ) (v := (lo_shoot σ).1) (σ' := (lo_shoot σ).2) hB (lo_c_shoot l D yI yC yO h Ad σ u _ hinv.z) (kw_law_shoot hts) rfl hl.1 rfl (Nat.le_of_ble_eq_true rfl) dL_law_147 hc hs rfl rfl hP hD hS (fun u H locs hP hD hS => ?_)
    refine lv_goto (tgt := 327) hx hb dL_law_150 (by decide) ?_
    exact kk _ (ac_shoot hinv.2.2.1) H locs ⟨u, hP, hD, hS⟩
  refine lv_iload hx hb dL_law_153 (lv_at hl 2 rfl) ?_
  refine lv_bipush (v := 6) hx hb dL_law_155 (by decide) ?_
  refine lv_icmp_ne (tgt := 167) hx hb dL_law_157 (by decide) (fun _ => ?_) (fun _ => ?_)
  rotate_left
  · refine lv_aload_n hx hb dL_law_160 rfl (lv_at hl 8 rfl) ?_
    refine lo_callr (wr := lo_V yL w f) (As := []) (X := lo_turnBack σ) (v := (lo_turnBack σ).1) (σ' := (lo_turnBack σ).2) hB (lo_c_turnBack l D yI yC yO h Ad σ u _ hinv.z) (kw_law_turnBack hts) rfl hl.1 rfl (Nat.le_of_ble_eq_true rfl) dL_law_161 hc hs rfl rfl hP hD hS (fun u H locs hP hD hS => ?_)
    refine lv_goto (tgt := 327) hx hb dL_law_164 (by decide) ?_
    exact kk _ (ac_turnBack hinv.2.2.1) H locs ⟨u, hP, hD, hS⟩
  refine lv_iload hx hb dL_law_167 (lv_at hl 2 rfl) ?_
  refine lv_bipush (v := 7) hx hb dL_law_169 (by decide) ?_
  refine lv_icmp_ne (tgt := 197) hx hb dL_law_171 (by decide) (fun _ => ?_) (fun _ => ?_)
  rotate_left
  · refine lv_aload_n hx hb dL_law_174 rfl (lv_at hl 8 rfl) ?_
    refine lv_iload hx hb dL_law_175 (lv_at hl 0 rfl) ?_
    refine lv_iload hx hb dL_law_177 (lv_at hl 3 rfl) ?_
    refine lv_bipush (v := 8) hx hb dL_law_179 (by decide) ?_
    refine lv_ishr hx hb dL_law_181 ?_
    refine lv_sipush (v := 206) hx hb dL_law_182 (by decide) ?_
    refine lo_parts (v := (x7 >>> ((8 : Int32) &&& 31))) (n := 206) hB (by decide) (kw_law_part hts) hl.1 (Nat.le_of_ble_eq_true rfl) dL_law_185 hc hs hP hD hS (fun H locs hP hD hS => ?_)
    refine lv_bipush (v := 6) hx hb dL_law_188 (by decide) ?_
    refine lv_isub hx hb dL_law_190 ?_
    refine lo_callr (wr := lo_V yL w f) (As := [.int x10, .int ((lo_part (x7 >>> ((8 : Int32) &&& 31)) 206) - 6)]) (X := lo_print σ x10 ((lo_part (x7 >>> ((8 : Int32) &&& 31)) 206) - 6)) (v := (lo_print σ x10 ((lo_part (x7 >>> ((8 : Int32) &&& 31)) 206) - 6)).1) (σ' := (lo_print σ x10 ((lo_part (x7 >>> ((8 : Int32) &&& 31)) 206) - 6)).2) hB (lo_c_print l D yI yC yO h Ad σ u x10 ((lo_part (x7 >>> ((8 : Int32) &&& 31)) 206) - 6) _ hinv.z) (kw_law_print hts) rfl hl.1 rfl (Nat.le_of_ble_eq_true rfl) dL_law_191 hc hs rfl rfl hP hD hS (fun u H locs hP hD hS => ?_)
    refine lv_goto (tgt := 327) hx hb dL_law_194 (by decide) ?_
    exact kk _ (ac_print hinv.2.2.1 _ _) H locs ⟨u, hP, hD, hS⟩
  refine lv_iload hx hb dL_law_197 (lv_at hl 2 rfl) ?_
  refine lv_bipush (v := 8) hx hb dL_law_199 (by decide) ?_
  refine lv_icmp_ne (tgt := 219) hx hb dL_law_201 (by decide) (fun _ => ?_) (fun _ => ?_)
  rotate_left
  · refine lv_aload_n hx hb dL_law_204 rfl (lv_at hl 8 rfl) ?_
    refine lv_iload hx hb dL_law_205 (lv_at hl 3 rfl) ?_
    refine lv_iconst (v := 4) hx hb dL_law_207 (by decide) ?_
    refine lv_ishr hx hb dL_law_208 ?_
    refine lv_iconst (v := 4) hx hb dL_law_209 (by decide) ?_
    refine lo_parts (v := (x7 >>> ((4 : Int32) &&& 31))) (n := 4) hB (by decide) (kw_law_part hts) hl.1 (Nat.le_of_ble_eq_true rfl) dL_law_210 hc hs hP hD hS (fun H locs hP hD hS => ?_)
    refine lo_callr (wr := lo_V yL w f) (As := [.int (lo_part (x7 >>> ((4 : Int32) &&& 31)) 4)]) (X := lo_scan σ (lo_part (x7 >>> ((4 : Int32) &&& 31)) 4)) (v := (lo_scan σ (lo_part (x7 >>> ((4 : Int32) &&& 31)) 4)).1) (σ' := (lo_scan σ (lo_part (x7 >>> ((4 : Int32) &&& 31)) 4)).2) hB (lo_c_scan l D yI yC yO h Ad σ u (lo_part (x7 >>> ((4 : Int32) &&& 31)) 4) _ hinv.z) (kw_law_scan hts) rfl hl.1 rfl (Nat.le_of_ble_eq_true rfl) dL_law_213 hc hs rfl rfl hP hD hS (fun u H locs hP hD hS => ?_)
    refine lv_goto (tgt := 327) hx hb dL_law_216 (by decide) ?_
    exact kk _ (ac_scan hinv.2.2.1 _) H locs ⟨u, hP, hD, hS⟩
  refine lv_iload hx hb dL_law_219 (lv_at hl 2 rfl) ?_
  refine lv_bipush (v := 9) hx hb dL_law_221 (by decide) ?_
  refine lv_icmp_ne (tgt := 235) hx hb dL_law_223 (by decide) (fun _ => ?_) (fun _ => ?_)
  rotate_left
  · refine lv_aload_n hx hb dL_law_226 rfl (lv_at hl 8 rfl) ?_
    refine lv_iload hx hb dL_law_227 (lv_at hl 0 rfl) ?_
    refine lo_callr (wr := lo_V yL w f) (As := [.int x10]) (X := lo_throwAway σ x10) (v := (lo_throwAway σ x10).1) (σ' := (lo_throwAway σ x10).2) hB (lo_c_throwAway l D yI yC yO h Ad σ u x10 _ hinv.z) (kw_law_throwAway hts) rfl hl.1 rfl (Nat.le_of_ble_eq_true rfl) dL_law_229 hc hs rfl rfl hP hD hS (fun u H locs hP hD hS => ?_)
    refine lv_goto (tgt := 327) hx hb dL_law_232 (by decide) ?_
    exact kk _ (ac_throwAway hinv.2.2.1 _) H locs ⟨u, hP, hD, hS⟩
  refine lv_iload hx hb dL_law_235 (lv_at hl 2 rfl) ?_
  refine lv_bipush (v := 10) hx hb dL_law_237 (by decide) ?_
  refine lv_icmp_ne (tgt := 258) hx hb dL_law_239 (by decide) (fun _ => ?_) (fun _ => ?_)
  rotate_left
  · refine lv_aload_n hx hb dL_law_242 rfl (lv_at hl 8 rfl) ?_
    refine lv_iload hx hb dL_law_243 (lv_at hl 3 rfl) ?_
    refine lv_iconst (v := 4) hx hb dL_law_245 (by decide) ?_
    refine lv_ishr hx hb dL_law_246 ?_
    refine lv_bipush (v := 22) hx hb dL_law_247 (by decide) ?_
    refine lo_parts (v := (x7 >>> ((4 : Int32) &&& 31))) (n := 22) hB (by decide) (kw_law_part hts) hl.1 (Nat.le_of_ble_eq_true rfl) dL_law_249 hc hs hP hD hS (fun H locs hP hD hS => ?_)
    refine lo_callr (wr := lo_V yL w f) (As := [.int (lo_part (x7 >>> ((4 : Int32) &&& 31)) 22)]) (X := lo_setSuction σ (lo_part (x7 >>> ((4 : Int32) &&& 31)) 22)) (v := (lo_setSuction σ (lo_part (x7 >>> ((4 : Int32) &&& 31)) 22)).1) (σ' := (lo_setSuction σ (lo_part (x7 >>> ((4 : Int32) &&& 31)) 22)).2) hB (lo_c_setSuction l D yI yC yO h Ad σ u (lo_part (x7 >>> ((4 : Int32) &&& 31)) 22) _ hinv.z) (kw_law_setSuction hts) rfl hl.1 rfl (Nat.le_of_ble_eq_true rfl) dL_law_252 hc hs rfl rfl hP hD hS (fun u H locs hP hD hS => ?_)
    refine lv_goto (tgt := 327) hx hb dL_law_255 (by decide) ?_
    exact kk _ (ac_setSuction hinv.2.2.1 _) H locs ⟨u, hP, hD, hS⟩
  refine lv_iload hx hb dL_law_258 (lv_at hl 2 rfl) ?_
  refine lv_bipush (v := 11) hx hb dL_law_260 (by decide) ?_
  refine lv_icmp_ne (tgt := 289) hx hb dL_law_262 (by decide) (fun _ => ?_) (fun _ => ?_)
  rotate_left
  · refine lv_aload_n hx hb dL_law_265 rfl (lv_at hl 8 rfl) ?_
    refine lv_iload hx hb dL_law_266 (lv_at hl 3 rfl) ?_
    refine lv_iconst (v := 4) hx hb dL_law_268 (by decide) ?_
    refine lv_ishr hx hb dL_law_269 ?_
    refine lv_iconst (v := 4) hx hb dL_law_270 (by decide) ?_
    refine lo_parts (v := (x7 >>> ((4 : Int32) &&& 31))) (n := 4) hB (by decide) (kw_law_part hts) hl.1 (Nat.le_of_ble_eq_true rfl) dL_law_271 hc hs hP hD hS (fun H locs hP hD hS => ?_)
    refine lv_iload hx hb dL_law_274 (lv_at hl 3 rfl) ?_
    refine lv_bipush (v := 6) hx hb dL_law_276 (by decide) ?_
    refine lv_ishr hx hb dL_law_278 ?_
    refine lv_iconst (v := 4) hx hb dL_law_279 (by decide) ?_
    refine lo_parts (v := (x7 >>> ((6 : Int32) &&& 31))) (n := 4) hB (by decide) (kw_law_part hts) hl.1 (Nat.le_of_ble_eq_true rfl) dL_law_280 hc hs hP hD hS (fun H locs hP hD hS => ?_)
    refine lo_callr (wr := lo_V yL w f) (As := [.int (lo_part (x7 >>> ((4 : Int32) &&& 31)) 4), .int (lo_part (x7 >>> ((6 : Int32) &&& 31)) 4)]) (X := lo_set σ (lo_part (x7 >>> ((4 : Int32) &&& 31)) 4) (lo_part (x7 >>> ((6 : Int32) &&& 31)) 4)) (v := (lo_set σ (lo_part (x7 >>> ((4 : Int32) &&& 31)) 4) (lo_part (x7 >>> ((6 : Int32) &&& 31)) 4)).1) (σ' := (lo_set σ (lo_part (x7 >>> ((4 : Int32) &&& 31)) 4) (lo_part (x7 >>> ((6 : Int32) &&& 31)) 4)).2) hB (lo_c_set l D yI yC yO h Ad σ u (lo_part (x7 >>> ((4 : Int32) &&& 31)) 4) (lo_part (x7 >>> ((6 : Int32) &&& 31)) 4) _ hinv.z) (kw_law_set hts) rfl hl.1 rfl (Nat.le_of_ble_eq_true rfl) dL_law_283 hc hs rfl rfl hP hD hS (fun u H locs hP hD hS => ?_)
    refine lv_goto (tgt := 327) hx hb dL_law_286 (by decide) ?_
    exact kk _ (ac_set hinv.2.2.1 _ _) H locs ⟨u, hP, hD, hS⟩
  refine lv_iload hx hb dL_law_289 (lv_at hl 2 rfl) ?_
  refine lv_bipush (v := 12) hx hb dL_law_291 (by decide) ?_
  refine lv_icmp_ne (tgt := 323) hx hb dL_law_293 (by decide) (fun _ => ?_) (fun _ => ?_)
  rotate_left
  · refine lv_aload_n hx hb dL_law_296 rfl (lv_at hl 8 rfl) ?_
    refine lv_iload hx hb dL_law_297 (lv_at hl 3 rfl) ?_
    refine lv_iconst (v := 4) hx hb dL_law_299 (by decide) ?_
    refine lv_ishr hx hb dL_law_300 ?_
    refine lv_bipush (v := 9) hx hb dL_law_301 (by decide) ?_
    refine lo_parts (v := (x7 >>> ((4 : Int32) &&& 31))) (n := 9) hB (by decide) (kw_law_part hts) hl.1 (Nat.le_of_ble_eq_true rfl) dL_law_303 hc hs hP hD hS (fun H locs hP hD hS => ?_)
    refine lv_iload hx hb dL_law_306 (lv_at hl 3 rfl) ?_
    refine lv_bipush (v := 8) hx hb dL_law_308 (by decide) ?_
    refine lv_ishr hx hb dL_law_310 ?_
    refine lv_sipush (v := 10000) hx hb dL_law_311 (by decide) ?_
    refine lo_parts (v := (x7 >>> ((8 : Int32) &&& 31))) (n := 10000) hB (by decide) (kw_law_part hts) hl.1 (Nat.le_of_ble_eq_true rfl) dL_law_314 hc hs hP hD hS (fun H locs hP hD hS => ?_)
    refine lo_callr (wr := lo_V yL w f) (As := [.int (lo_part (x7 >>> ((4 : Int32) &&& 31)) 9), .int (lo_part (x7 >>> ((8 : Int32) &&& 31)) 10000)]) (X := lo_layBook σ (lo_part (x7 >>> ((4 : Int32) &&& 31)) 9) (lo_part (x7 >>> ((8 : Int32) &&& 31)) 10000)) (v := (lo_layBook σ (lo_part (x7 >>> ((4 : Int32) &&& 31)) 9) (lo_part (x7 >>> ((8 : Int32) &&& 31)) 10000)).1) (σ' := (lo_layBook σ (lo_part (x7 >>> ((4 : Int32) &&& 31)) 9) (lo_part (x7 >>> ((8 : Int32) &&& 31)) 10000)).2) hB (lo_c_layBook l D yI yC yO h Ad σ u (lo_part (x7 >>> ((4 : Int32) &&& 31)) 9) (lo_part (x7 >>> ((8 : Int32) &&& 31)) 10000) _ hinv.z) (kw_law_layBook hts) rfl hl.1 rfl (Nat.le_of_ble_eq_true rfl) dL_law_317 hc hs rfl rfl hP hD hS (fun u H locs hP hD hS => ?_)
    refine lv_goto (tgt := 327) hx hb dL_law_320 (by decide) ?_
    exact kk _ (ac_layBook hinv.2.2.1 _ _) H locs ⟨u, hP, hD, hS⟩
  refine lv_aload_n hx hb dL_law_323 rfl (lv_at hl 8 rfl) ?_
  refine lo_callr (wr := lo_V yL w f) (As := []) (X := lo_restore σ) (v := (lo_restore σ).1) (σ' := (lo_restore σ).2) hB (lo_c_restore l D yI yC yO h Ad σ u _ hinv.z) (kw_law_restore hts) rfl hl.1 rfl (Nat.le_of_ble_eq_true rfl) dL_law_324 hc hs rfl rfl hP hD hS (fun u H locs hP hD hS => ?_)
  exact kk _ (ac_restore (by rw [hinv.1]; decide) (by rw [hinv.2.1]; exact hn0)) H locs ⟨u, hP, hD, hS⟩

set_option maxHeartbeats 4000000 in
set_option maxRecDepth 100000 in
theorem law_l1 (hB : lo_B p s m args c cL_law 12 wsL_law D yI yC yO A) (hc : cells ≤ room_1.cells) (hs : slots ≤ room_1.slots) (hKL : va_K D vwCl (lt_ty yI yC yO ++ [(yL, .long)]) s) {xs : Nat → Int32} {Ls : Nat} (hLs : Ls < 100000) (hX : va_X b Ls xs s s.heap) (hbl : b < s.heap.size) (hbA : ¬ A b) (hn0 : lo_W n0.1 n0.2)
    (kk : ∀ (acts : Nat) (σ : lo_T) (f : Nat → Int64) (H : Heap) (locs : List Loc) (ls : Array Slot), acts ≤ 28 → lo_inv n0 acts σ f → lo_J D yI yC yO yL A s.heap h w Ad f σ H locs → lv_has ls 12 [(6, .int (nI 28)), (4, .long kept), (3, .int (nI acts)), (2, .ref w), (1, .ref h), (0, .ref b)] → W p l e room_1 s m args below meth c H locs cells slots Q (F0 m 377 ls [])) :
    ∀ (n k acts : Nat) (σ : lo_T) (f : Nat → Int64), k + n = 28 → acts ≤ k → lo_inv n0 acts σ f → ∀ (H : Heap) (locs : List Loc) (ls : Array Slot), lo_J D yI yC yO yL A s.heap h w Ad f σ H locs → lv_has ls 12 [(6, .int (nI k)), (4, .long kept), (3, .int (nI acts)), (2, .ref w), (1, .ref h), (0, .ref b)] → W p l e room_1 s m args below meth c H locs cells slots Q (F0 m 76 ls []) := by
  have hx := hB.1.1
  have hb := hB.1.2.1
  have hown := hB.1.2.2.2.1
  have hts := hB.1.2.2.2.2
  intro n
  induction n with
  | zero =>
    intro k acts σ f hk ha hinv H locs ls hJ hl
    obtain rfl : k = 28 := by omega
    refine lv_iload hx hb dL_law_76 (lv_at hl 0 rfl) ?_
    refine lv_bipush (v := 28) hx hb dL_law_78 (by decide) ?_
    exact lv_icmp_ge (tgt := 377) hx hb dL_law_80 (by decide) (fun _ => kk acts σ f H locs ls ha hinv hJ hl) (fun q => absurd (show (28 : Int32) ≤ nI 28 by decide) q)
  | succ n ih =>
    intro k acts σ f hk ha hinv H locs ls hJ hl
    obtain ⟨u, hP, hD, hS⟩ := hJ
    have cA : (nI acts).toNatClampNeg = acts := nI_clamp (by omega)
    refine lv_iload hx hb dL_law_76 (lv_at hl 0 rfl) ?_
    refine lv_bipush (v := 28) hx hb dL_law_78 (by decide) ?_
    refine lv_icmp_ge (tgt := 377) hx hb dL_law_80 (by decide) (fun q => absurd q (nI_ge (a := k) (b := 28) (by omega) (by decide))) (fun _ => ?_)
    refine lv_aload_n hx hb dL_law_83 rfl (lv_at hl 5 rfl) ?_
    refine lv_iload hx hb dL_law_84 (lv_at hl 0 rfl) ?_
    refine lo_drawns (k := k) hB hLs (by omega) hX hbl hbA (kw_law_drawn hts) hl.1 (Nat.le_of_ble_eq_true rfl) dL_law_86 hc hs hP hD hS (fun H locs hP hD hS => ?_)
    generalize lo_drawn Ls xs (nI k) = x7
    refine lv_istore (lv' := [(7, .int x7), (6, .int (nI k)), (4, .long kept), (3, .int (nI acts)), (2, .ref w), (1, .ref h), (0, .ref b)]) hx hb dL_law_89 hl (by decide) rfl (fun ls hl => ?_)
    refine lv_iload hx hb dL_law_91 (lv_at hl 0 rfl) ?_
    refine lv_bipush (v := 14) hx hb dL_law_93 (by decide) ?_
    refine lo_parts (v := x7) (n := 14) hB (by decide) (kw_law_part hts) hl.1 (Nat.le_of_ble_eq_true rfl) dL_law_95 hc hs hP hD hS (fun H locs hP hD hS => ?_)
    generalize lo_part x7 14 = x8
    refine lv_istore (lv' := [(8, .int x8), (7, .int x7), (6, .int (nI k)), (4, .long kept), (3, .int (nI acts)), (2, .ref w), (1, .ref h), (0, .ref b)]) hx hb dL_law_98 hl (by decide) rfl (fun ls hl => ?_)
    refine lv_aload_n hx hb dL_law_100 rfl (lv_at hl 5 rfl) ?_
    refine lv_iload_n hx hb dL_law_101 rfl (lv_at hl 4 rfl) ?_
    refine lv_aload_n hx hb dL_law_102 rfl (lv_at hl 6 rfl) ?_
    refine lo_seens (wr := lo_V yL w f) (σ := σ) hB hinv.2.2.1.G (kw_law_seen hts) hl.1 (Nat.le_of_ble_eq_true rfl) dL_law_103 hc hs hP hD hS (fun u H locs hP hD hS => ?_)
    refine va_last hx hb hKL hP hD hS 0 3 rfl rfl (vp_in_nI (by omega) (by omega)) dL_law_106 (fun H locs hP hD hS => ?_)
    have hP : va_P D vwCl (lo_V yL w (vp_updL f (nI acts).toNatClampNeg (lo_seen σ)) ++ lo_O yI yC yO h Ad σ u) H := hP
    have hD : va_D A (lo_V yL w (vp_updL f (nI acts).toNatClampNeg (lo_seen σ)) ++ lo_O yI yC yO h Ad σ u) := hD
    rw [cA] at hP hD
    have hinv2 := hinv.f (lo_seen σ)
    have hf : vp_updL f acts (lo_seen σ) acts = lo_S σ.2.2.2.1 := by rw [pk_uLs]; exact lo_seenS σ
    generalize vp_updL f acts (lo_seen σ) = f' at hP hD hinv2 hf
    refine lv_aload_n hx hb dL_law_107 rfl (lv_at hl 6 rfl) ?_
    refine lv_bipush (v := 15) hx hb dL_law_108 (by decide) ?_
    refine lo_callr (wr := lo_V yL w f') (As := [.int 15]) (X := lo_count σ 15) (v := σ.2.1) (σ' := σ) hB (lo_c_count l D yI yC yO h Ad σ u 15 _) (kw_law_count hts) rfl hl.1 rfl (Nat.le_of_ble_eq_true rfl) dL_law_110 hc hs (lo_n15 σ) rfl hP hD hS (fun u H locs hP hD hS => ?_)
    refine lv_istore (lv' := [(9, .int σ.2.1), (8, .int x8), (7, .int x7), (6, .int (nI k)), (4, .long kept), (3, .int (nI acts)), (2, .ref w), (1, .ref h), (0, .ref b)]) hx hb dL_law_113 hl (by decide) rfl (fun ls hl => ?_)
    refine lv_iload hx hb dL_law_115 (lv_at hl 2 rfl) ?_
    refine lv_iconst (v := 4) hx hb dL_law_117 (by decide) ?_
    refine lv_ishr hx hb dL_law_118 ?_
    refine lv_bipush (v := 13) hx hb dL_law_119 (by decide) ?_
    refine lo_parts (v := (x7 >>> ((4 : Int32) &&& 31))) (n := 13) hB (by decide) (kw_law_part hts) hl.1 (Nat.le_of_ble_eq_true rfl) dL_law_121 hc hs hP hD hS (fun H locs hP hD hS => ?_)
    generalize lo_part (x7 >>> ((4 : Int32) &&& 31)) 13 = x10
    refine lv_istore (lv' := [(10, .int x10), (9, .int σ.2.1), (8, .int x8), (7, .int x7), (6, .int (nI k)), (4, .long kept), (3, .int (nI acts)), (2, .ref w), (1, .ref h), (0, .ref b)]) hx hb dL_law_124 hl (by decide) rfl (fun ls hl => ?_)
    refine law_chain hB hc hs hn0 hinv2 hl (fun X hX H locs hJ => ?_) H locs ⟨u, hP, hD, hS⟩
    have hl0 := hl
    have tail : ∀ (acts' : Nat) (v : Int32), nI acts + v = nI acts' → acts' ≤ k + 1 → lo_inv n0 acts' X.2 f' → ∀ (H : Heap) (locs : List Loc) (ls : Array Slot), lo_J D yI yC yO yL A s.heap h w Ad f' X.2 H locs → lv_has ls 12 [(11, .int X.1), (10, .int x10), (9, .int σ.2.1), (8, .int x8), (7, .int x7), (6, .int (nI k)), (4, .long kept), (3, .int (nI acts)), (2, .ref w), (1, .ref h), (0, .ref b)] → W p l e room_1 s m args below meth c H locs cells slots Q (F0 m 369 ls [.int v, .int (nI acts)]) := by
      intro acts' v ev hle hi H locs ls hJ hl
      refine lv_iadd hx hb dL_law_369 ?_
      refine lt_top (y := nI acts') ev ?_
      refine lv_istore_n (lv' := [(3, .int (nI acts')), (11, .int X.1), (10, .int x10), (9, .int σ.2.1), (8, .int x8), (7, .int x7), (6, .int (nI k)), (4, .long kept), (2, .ref w), (1, .ref h), (0, .ref b)]) hx hb dL_law_370 rfl hl (by decide) rfl (fun ls hl => ?_)
      refine lv_iinc (v := nI k + 1) (lv' := [(6, .int (nI k + 1)), (3, .int (nI acts')), (11, .int X.1), (10, .int x10), (9, .int σ.2.1), (8, .int x8), (7, .int x7), (4, .long kept), (2, .ref w), (1, .ref h), (0, .ref b)]) hx hb dL_law_371 hl (k := 6) rfl rfl (by decide) rfl (fun ls hl => ?_)
      refine lv_goto (tgt := 76) hx hb dL_law_374 (by decide) ?_
      rw [nI_1] at hl
      exact ih (k + 1) acts' X.2 f' (by omega) hle hi H locs ls hJ (lv_sub hl [0, 7, 1, 8, 9, 10] rfl)
    refine lv_istore (lv' := [(11, .int X.1), (10, .int x10), (9, .int σ.2.1), (8, .int x8), (7, .int x7), (6, .int (nI k)), (4, .long kept), (3, .int (nI acts)), (2, .ref w), (1, .ref h), (0, .ref b)]) hx hb dL_law_327 hl (by decide) rfl (fun ls hl => ?_)
    refine lv_iload hx hb dL_law_329 (lv_at hl 0 rfl) ?_
    rcases hinv2.act hf hX with ⟨x1, inv, ez, en⟩ | ⟨x1, inv⟩
    · refine lv_if_ge (tgt := 358) hx hb dL_law_331 (by decide) (fun q => absurd q (Int32.not_le.mpr x1)) (fun _ => ?_)
      obtain ⟨u, hP, hD, hS⟩ := hJ
      refine lv_aload_n hx hb dL_law_334 rfl (lv_at hl 9 rfl) ?_
      refine lv_bipush (v := 15) hx hb dL_law_335 (by decide) ?_
      refine lo_callr (wr := lo_V yL w f') (As := [.int 15]) (X := lo_count X.2 15) (v := X.2.2.1) (σ' := X.2) hB (lo_c_count l D yI yC yO h Ad X.2 u 15 _) (kw_law_count hts) rfl hl.1 rfl (Nat.le_of_ble_eq_true rfl) dL_law_337 hc hs (lo_n15 X.2) rfl hP hD hS (fun u H locs hP hD hS => ?_)
      refine lv_iload hx hb dL_law_340 (lv_at hl 2 rfl) ?_
      refine lv_icmp_ne (tgt := 356) hx hb dL_law_342 (by decide) (fun q => absurd ez q) (fun _ => ?_)
      refine lv_aload_n hx hb dL_law_345 rfl (lv_at hl 9 rfl) ?_
      refine lo_seens (wr := lo_V yL w f') (σ := X.2) hB inv.2.2.1.G (kw_law_seen hts) hl.1 (Nat.le_of_ble_eq_true rfl) dL_law_346 hc hs hP hD hS (fun u H locs hP hD hS => ?_)
      refine lv_aload_n hx hb dL_law_349 rfl (lv_at hl 8 rfl) ?_
      refine lv_iload_n hx hb dL_law_350 rfl (lv_at hl 7 rfl) ?_
      refine va_lald hx hb hKL hP 0 3 rfl rfl (vp_in_nI (by omega) (by omega)) dL_law_351 ?_
      refine W.lcmp hx hb dL_law_352 ?_
      refine lt_top (y := 0) (by rw [cA, hf, lo_seenS, en]; exact lo_cmp0 _) ?_
      refine lv_if_eq (tgt := 358) hx hb dL_law_353 (by decide) (fun _ => ?_) (fun q => absurd rfl q)
      refine lv_iload_n hx hb dL_law_358 rfl (lv_at hl 7 rfl) ?_
      refine lv_iload hx hb dL_law_359 (lv_at hl 0 rfl) ?_
      refine lv_if_ge (tgt := 368) hx hb dL_law_361 (by decide) (fun q => absurd q (Int32.not_le.mpr x1)) (fun _ => ?_)
      refine lv_iconst (v := 0) hx hb dL_law_364 (by decide) ?_
      refine lv_goto (tgt := 369) hx hb dL_law_365 (by decide) ?_
      exact tail acts 0 (Int32.add_zero _) (by omega) inv H locs ls ⟨u, hP, hD, hS⟩ hl
    · refine lv_if_ge (tgt := 358) hx hb dL_law_331 (by decide) (fun _ => ?_) (fun q => absurd x1 q)
      refine lv_iload_n hx hb dL_law_358 rfl (lv_at hl 7 rfl) ?_
      refine lv_iload hx hb dL_law_359 (lv_at hl 0 rfl) ?_
      refine lv_if_ge (tgt := 368) hx hb dL_law_361 (by decide) (fun _ => ?_) (fun q => absurd x1 q)
      refine lv_iconst (v := 1) hx hb dL_law_368 (by decide) ?_
      exact tail (acts + 1) 1 (nI_1 acts) (by omega) inv H locs ls hJ hl

/-- undo, as a step -/
theorem lo_undoS {σ : lo_T} {z : Nat} (hz : z < 2147483648) (e : σ.2.1 = nI (z + 1)) : lo_undo σ = (nI z, (σ.1, nI z, σ.2.2.1, σ.2.2.1 z, σ.2.2.2.2)) := by
  have hz1 : σ.2.1 - 1 = nI z := by rw [e]; exact nI_pred z
  have n0 : ¬ σ.2.1 = 0 := by
    rw [e]
    intro q
    have h1 : (nI (z + 1)).toBitVec.toNat = 0 := by rw [q]; rfl
    rw [pk_tn (by omega)] at h1
    omega
  have e1 : X2_tlz σ.2.1 = nI z := (if_neg n0).trans hz1
  have e2 : X2_tls σ.2.1 σ.2.2.1 σ.2.2.2.1.1 σ.2.2.2.1.2 = σ.2.2.1 z := (if_neg n0).trans (by rw [hz1]; exact congrArg σ.2.2.1 (nI_clamp hz))
  have e3 : X7_undo σ.1 σ.2.1 lo_zB σ.2.2.1 σ.2.2.2.1.1 σ.2.2.2.1.2 = ((X2_tlz σ.2.1), ((X2_tlz σ.2.1), lo_zB, σ.2.2.1, ((X2_tls σ.2.1 σ.2.2.1 σ.2.2.2.1.1 σ.2.2.2.1.2).1), ((X2_tls σ.2.1 σ.2.2.1 σ.2.2.2.1.1 σ.2.2.2.1.2).2))) := if_neg n0
  unfold lo_undo
  dsimp only
  rw [e3, e1, e2]
theorem lo_undo0 {σ : lo_T} (e : σ.2.1 = 0) : lo_undo σ = ((-5), σ) := lo_recE σ (-5) (if_pos e)
set_option maxHeartbeats 4000000 in
set_option maxRecDepth 100000 in
theorem law_l3 (hB : lo_B p s m args c cL_law 12 wsL_law D yI yC yO A) (hc : cells ≤ room_1.cells) (hs : slots ≤ room_1.slots) {f : Nat → Int64} (kk : ∀ (σ : lo_T) (H : Heap) (locs : List Loc) (ls : Array Slot), σ.1 = 1 → σ.2.2.2.2.2.1 = n0 → σ.2.1 = 0 → lo_J D yI yC yO yL A s.heap h w Ad f σ H locs → lv_has ls 12 [(4, .long kept), (2, .ref w), (1, .ref h), (0, .ref b)] → W p l e room_1 s m args below meth c H locs cells slots Q (F0 m 476 ls [])) :
    ∀ (z : Nat) (σ : lo_T) (H : Heap) (locs : List Loc) (ls : Array Slot), σ.1 = 1 → σ.2.2.2.2.2.1 = n0 → z ≤ 4 → σ.2.1 = nI z → lo_J D yI yC yO yL A s.heap h w Ad f σ H locs → lv_has ls 12 [(4, .long kept), (2, .ref w), (1, .ref h), (0, .ref b)] → W p l e room_1 s m args below meth c H locs cells slots Q (F0 m 458 ls []) := by
  have hx := hB.1.1
  have hb := hB.1.2.1
  have hown := hB.1.2.2.2.1
  have hts := hB.1.2.2.2.2
  intro z
  induction z with
  | zero =>
    intro σ H locs ls h1 h2 h4 ez hJ hl
    obtain ⟨u, hP, hD, hS⟩ := hJ
    refine lv_aload_n hx hb dL_law_458 rfl (lv_at hl 2 rfl) ?_
    refine lv_bipush (v := 15) hx hb dL_law_459 (by decide) ?_
    refine lo_callr (wr := lo_V yL w f) (As := [.int 15]) (X := lo_count σ 15) (v := nI 0) (σ' := σ) hB (lo_c_count l D yI yC yO h Ad σ u 15 _) (kw_law_count hts) rfl hl.1 rfl (Nat.le_of_ble_eq_true rfl) dL_law_461 hc hs ((lo_n15 σ).trans ez) rfl hP hD hS (fun u H locs hP hD hS => ?_)
    exact lv_if_le (tgt := 476) hx hb dL_law_464 (by decide) (fun _ => kk σ H locs ls h1 h2 ez ⟨u, hP, hD, hS⟩ hl) (fun q => absurd (show nI 0 ≤ 0 by decide) q)
  | succ z ih =>
    intro σ H locs ls h1 h2 h4 ez hJ hl
    obtain ⟨u, hP, hD, hS⟩ := hJ
    have eU := lo_undoS (by omega) ez
    refine lv_aload_n hx hb dL_law_458 rfl (lv_at hl 2 rfl) ?_
    refine lv_bipush (v := 15) hx hb dL_law_459 (by decide) ?_
    refine lo_callr (wr := lo_V yL w f) (As := [.int 15]) (X := lo_count σ 15) (v := nI (z + 1)) (σ' := σ) hB (lo_c_count l D yI yC yO h Ad σ u 15 _) (kw_law_count hts) rfl hl.1 rfl (Nat.le_of_ble_eq_true rfl) dL_law_461 hc hs ((lo_n15 σ).trans ez) rfl hP hD hS (fun u H locs hP hD hS => ?_)
    refine lv_if_le (tgt := 476) hx hb dL_law_464 (by decide) (fun q => absurd q (nI_nle (by omega) (by omega))) (fun _ => ?_)
    refine lv_aload_n hx hb dL_law_467 rfl (lv_at hl 2 rfl) ?_
    refine lo_callr (wr := lo_V yL w f) (As := []) (X := lo_undo σ) (v := nI z) (σ' := (lo_undo σ).2) hB (lo_c_undo l D yI yC yO h Ad σ u _ (by rw [ez]; exact lo_hzN h4)) (kw_law_undo hts) rfl hl.1 rfl (Nat.le_of_ble_eq_true rfl) dL_law_468 hc hs (by rw [eU]) rfl hP hD hS (fun u H locs hP hD hS => ?_)
    refine lv_if_ge (tgt := 458) hx hb dL_law_471 (by decide) (fun _ => ?_) (fun q => absurd (lo_nn (by omega)) q)
    exact ih (lo_undo σ).2 H locs ls (by rw [eU]; exact h1) (by rw [eU]; exact h2) (by omega) (by rw [eU]) ⟨u, hP, hD, hS⟩ hl

set_option maxHeartbeats 4000000 in
set_option maxRecDepth 100000 in
theorem law_l2 (hB : lo_B p s m args c cL_law 12 wsL_law D yI yC yO A) (hc : cells ≤ room_1.cells) (hs : slots ≤ room_1.slots) (hKL : va_K D vwCl (lt_ty yI yC yO ++ [(yL, .long)]) s) {f : Nat → Int64} {acts zn : Nat} {V : Nat → lt_SV} (ha : acts ≤ 28) (hzn : zn ≤ 4) (hV : ∀ m : Nat, m < zn → m < acts → lo_W (V (zn - 1 - m)).1 (V (zn - 1 - m)).2 ∧ lo_S (V (zn - 1 - m)) = f (acts - 1 - m))
    (kk : ∀ (z : Nat) (σ : lo_T) (H : Heap) (locs : List Loc) (ls : Array Slot), σ.1 = 1 → σ.2.2.2.2.2.1 = n0 → z ≤ 4 → σ.2.1 = nI z → lo_J D yI yC yO yL A s.heap h w Ad f σ H locs → lv_has ls 12 [(4, .long kept), (2, .ref w), (1, .ref h), (0, .ref b)] → W p l e room_1 s m args below meth c H locs cells slots Q (F0 m 458 ls [])) :
    ∀ (n j : Nat) (σ : lo_T) (H : Heap) (locs : List Loc) (ls : Array Slot), σ.1 = 1 → σ.2.2.2.2.2.1 = n0 → j + n = zn → j ≤ acts → σ.2.1 = nI n → σ.2.2.1 = V → lo_W σ.2.2.2.1.1 σ.2.2.2.1.2 → lo_S σ.2.2.2.1 = f (acts - j) → lo_J D yI yC yO yL A s.heap h w Ad f σ H locs → lv_has ls 12 [(6, .int (nI j)), (4, .long kept), (3, .int (nI acts)), (2, .ref w), (1, .ref h), (0, .ref b)] → W p l e room_1 s m args below meth c H locs cells slots Q (F0 m 396 ls []) := by
  have hx := hB.1.1
  have hb := hB.1.2.1
  have hown := hB.1.2.2.2.1
  have hts := hB.1.2.2.2.2
  intro n
  induction n with
  | zero =>
    intro j σ H locs ls h1 h2 hj hja ez eV hW eS hJ hl
    obtain ⟨u, hP, hD, hS⟩ := hJ
    refine lv_aload_n hx hb dL_law_396 rfl (lv_at hl 4 rfl) ?_
    refine lv_bipush (v := 15) hx hb dL_law_397 (by decide) ?_
    refine lo_callr (wr := lo_V yL w f) (As := [.int 15]) (X := lo_count σ 15) (v := nI 0) (σ' := σ) hB (lo_c_count l D yI yC yO h Ad σ u 15 _) (kw_law_count hts) rfl hl.1 rfl (Nat.le_of_ble_eq_true rfl) dL_law_399 hc hs ((lo_n15 σ).trans ez) rfl hP hD hS (fun u H locs hP hD hS => ?_)
    exact lv_if_le (tgt := 458) hx hb dL_law_402 (by decide) (fun _ => kk 0 σ H locs ls h1 h2 (by omega) ez ⟨u, hP, hD, hS⟩ (lv_sub hl [1, 3, 4, 5] rfl)) (fun q => absurd (show nI 0 ≤ 0 by decide) q)
  | succ n ih =>
    intro j σ H locs ls h1 h2 hj hja ez eV hW eS hJ hl
    obtain ⟨u, hP, hD, hS⟩ := hJ
    have eU := lo_undoS (by omega) ez
    have hz : lt_hz σ.2.1 := by rw [ez]; exact lo_hzN (by omega)
    refine lv_aload_n hx hb dL_law_396 rfl (lv_at hl 4 rfl) ?_
    refine lv_bipush (v := 15) hx hb dL_law_397 (by decide) ?_
    refine lo_callr (wr := lo_V yL w f) (As := [.int 15]) (X := lo_count σ 15) (v := nI (n + 1)) (σ' := σ) hB (lo_c_count l D yI yC yO h Ad σ u 15 _) (kw_law_count hts) rfl hl.1 rfl (Nat.le_of_ble_eq_true rfl) dL_law_399 hc hs ((lo_n15 σ).trans ez) rfl hP hD hS (fun u H locs hP hD hS => ?_)
    refine lv_if_le (tgt := 458) hx hb dL_law_402 (by decide) (fun q => absurd q (nI_nle (by omega) (by omega))) (fun _ => ?_)
    refine lv_iload hx hb dL_law_405 (lv_at hl 0 rfl) ?_
    refine lv_iload_n hx hb dL_law_407 rfl (lv_at hl 2 rfl) ?_
    by_cases hjl : j < acts
    · refine lv_icmp_ge (tgt := 458) hx hb dL_law_408 (by decide) (fun q => absurd q (nI_ge hjl (by omega))) (fun _ => ?_)
      obtain ⟨v1, v2⟩ := hV j (by omega) hjl
      have eI : nI acts - nI j = nI (acts - j) := pk_sub (by omega)
      refine lv_aload_n hx hb dL_law_411 rfl (lv_at hl 4 rfl) ?_
      refine lv_bipush (v := 15) hx hb dL_law_412 (by decide) ?_
      refine lo_callr (wr := lo_V yL w f) (As := [.int 15]) (X := lo_count σ 15) (v := nI (n + 1)) (σ' := σ) hB (lo_c_count l D yI yC yO h Ad σ u 15 _) (kw_law_count hts) rfl hl.1 rfl (Nat.le_of_ble_eq_true rfl) dL_law_414 hc hs ((lo_n15 σ).trans ez) rfl hP hD hS (fun u H locs hP hD hS => ?_)
      refine lv_istore (lv' := [(7, .int (nI (n + 1))), (6, .int (nI j)), (4, .long kept), (3, .int (nI acts)), (2, .ref w), (1, .ref h), (0, .ref b)]) hx hb dL_law_417 hl (by decide) rfl (fun ls hl => ?_)
      refine lv_iload hx hb dL_law_419 (lv_at hl 1 rfl) ?_
      refine lv_iconst (v := 3) hx hb dL_law_421 (by decide) ?_
      refine lv_icmp_gt (tgt := 450) hx hb dL_law_422 (by decide) (fun q => absurd q (nI_nlt (a := 3) (b := j) (by omega) (by omega))) (fun _ => ?_)
      refine lv_aload_n hx hb dL_law_425 rfl (lv_at hl 5 rfl) ?_
      refine lo_seens (wr := lo_V yL w f) (σ := σ) hB hW.G (kw_law_seen hts) hl.1 (Nat.le_of_ble_eq_true rfl) dL_law_426 hc hs hP hD hS (fun u H locs hP hD hS => ?_)
      refine lv_aload_n hx hb dL_law_429 rfl (lv_at hl 4 rfl) ?_
      refine lv_iload_n hx hb dL_law_430 rfl (lv_at hl 3 rfl) ?_
      refine lv_iload hx hb dL_law_431 (lv_at hl 1 rfl) ?_
      refine lv_isub hx hb dL_law_433 ?_
      refine lt_top (y := nI (acts - j)) eI ?_
      refine va_lald hx hb hKL hP 0 3 rfl rfl (vp_in_nI (by omega) (by omega)) dL_law_434 ?_
      refine W.lcmp hx hb dL_law_435 ?_
      refine lt_top (y := 0) (by rw [nI_clamp (by omega), lo_seenS, eS]; exact lo_cmp0 _) ?_
      refine lv_if_ne (tgt := 450) hx hb dL_law_436 (by decide) (fun q => absurd rfl q) (fun _ => ?_)
      refine lv_aload_n hx hb dL_law_439 rfl (lv_at hl 5 rfl) ?_
      refine lo_callr (wr := lo_V yL w f) (As := []) (X := lo_undo σ) (v := nI n) (σ' := (lo_undo σ).2) hB (lo_c_undo l D yI yC yO h Ad σ u _ hz) (kw_law_undo hts) rfl hl.1 rfl (Nat.le_of_ble_eq_true rfl) dL_law_440 hc hs (by rw [eU]) rfl hP hD hS (fun u H locs hP hD hS => ?_)
      refine lv_iload hx hb dL_law_443 (lv_at hl 0 rfl) ?_
      refine lv_iconst (v := 1) hx hb dL_law_445 (by decide) ?_
      refine lv_isub hx hb dL_law_446 ?_
      refine lv_icmp_eq (tgt := 452) hx hb dL_law_447 (by decide) (fun _ => ?_) (fun q => absurd (nI_pred n).symm q)
      refine lv_iinc (v := nI j + 1) (lv' := [(6, .int (nI j + 1)), (7, .int (nI (n + 1))), (4, .long kept), (3, .int (nI acts)), (2, .ref w), (1, .ref h), (0, .ref b)]) hx hb dL_law_452 hl (k := 1) rfl rfl (by decide) rfl (fun ls hl => ?_)
      refine lv_goto (tgt := 396) hx hb dL_law_455 (by decide) ?_
      rw [nI_1] at hl
      have eN : (lo_undo σ).2.2.2.2.1 = V (zn - 1 - j) := by
        rw [eU]
        show σ.2.2.1 n = V (zn - 1 - j)
        rw [eV]
        congr 1
        omega
      exact ih (j + 1) (lo_undo σ).2 H locs ls (by rw [eU]; exact h1) (by rw [eU]; exact h2) (by omega) (by omega) (by rw [eU]) (by rw [eU]; exact eV) (by rw [eN]; exact v1) (by rw [eN, v2]; congr 1; omega) ⟨u, hP, hD, hS⟩ (lv_sub hl [0, 2, 3, 4, 5, 6] rfl)
    · exact lv_icmp_ge (tgt := 458) hx hb dL_law_408 (by decide) (fun _ => kk (n + 1) σ H locs ls h1 h2 (by omega) ez ⟨u, hP, hD, hS⟩ (lv_sub hl [1, 3, 4, 5] rfl)) (fun q => absurd (nI_le (by omega) (by omega)) q)

end LOM
