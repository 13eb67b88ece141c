abbrev lo_rm_types : Room := { frames := 2, cells := 0, slots := 0, locals := 60 }
theorem kw_types_type {args : Array Value} {s : State} (hts : ∀ w ∈ wsL_types, w.before args s = true) : CallW lo_rm_types s args RL RX7 72 yX7_type cX7_type 2 (some .int) wsX7_type ({ frames := 1, cells := 0, slots := 0, locals := 30 }) 0 0 1 := cwV 1 hts gL_types_X7_type rfl rfl rfl (by decide +kernel) ⟨Nat.le_of_ble_eq_true rfl, Nat.le_of_ble_eq_true rfl⟩
/-! ===== types: up to eight signs of a word ===== -/
def lo_sgn (w : Int64) (k : Int32) : Int32 := ((w >>> (k.toInt64 &&& 63)) &&& 255).toInt32
def lo_ty1 (w : Int64) (k : Int32) (x : Int32 × lo_T) : Int32 × lo_T :=
  if x.1 = 0 then (0, x.2) else
  if lo_sgn w k = 0 then (1, x.2) else
  if (lo_type x.2 ((lo_sgn w k).toUInt32 % 65536).toInt32).1 ≤ 0 then (0, (lo_type x.2 ((lo_sgn w k).toUInt32 % 65536).toInt32).2) else (1, (lo_type x.2 ((lo_sgn w k).toUInt32 % 65536).toInt32).2)
def lo_ty (w : Int64) : Nat → Int32 × lo_T → Int32 × lo_T
  | 0, x => x
  | n + 1, x => lo_ty w n (lo_ty1 w (nI (8 * n)) x)
def lo_types (σ : lo_T) (w : Int64) : Int32 × lo_T := lo_ty w 8 (1, σ)
theorem lo_ty101 (w : Int64) (k : Int32) (x : Int32 × lo_T) : (lo_ty1 w k x).1 = 0 ∨ (lo_ty1 w k x).1 = 1 := by
  unfold lo_ty1
  split
  · exact Or.inl rfl
  · split
    · exact Or.inr rfl
    · split
      · exact Or.inl rfl
      · exact Or.inr rfl
theorem lo_ty01 (w : Int64) : ∀ (n : Nat) (x : Int32 × lo_T), x.1 = 0 ∨ x.1 = 1 → (lo_ty w n x).1 = 0 ∨ (lo_ty w n x).1 = 1 := by
  intro n
  induction n with
  | zero => intro x h; exact h
  | succ n ih => intro x _; exact ih _ (lo_ty101 w _ x)
def lo_kv : Nat → Int32
  | 0 => -8
  | n + 1 => nI (8 * n)
theorem lo_kvS : ∀ n, n < 8 → lo_kv (n + 1) + Int32.ofInt (-8) = lo_kv n := by decide +kernel
section LOG
variable {p : Program} {l : Launch} {e : Env} {s : State} {m : MethodId} {args : Array Value} {below : List Frame} {meth : Method} {c : Code} {Q : State → Prop} {A : Nat → Prop} {D : va_G} {yI yC yO : ClassId}
set_option maxHeartbeats 4000000 in
set_option maxRecDepth 100000 in
theorem types_l (hB : lo_B p s m args c cL_types 6 wsL_types D yI yC yO A) {h : Nat} {Ad : Nat → Nat → Nat} {w : Int64} {y : Int32 × lo_T} (kk : ∀ (H : Heap) (locs : List Loc) (ls : Array Slot), lo_I D yI yC yO A s.heap h Ad y.2 H locs → lv_has ls 6 [(4, .int (lo_kv 0)), (3, .int y.1), (0, .ref h), (1, .long w)] → W p l e lo_rm_types s m args below meth c H locs 0 0 Q (F0 m 53 ls [])) :
    ∀ (n : Nat) (x : Int32 × lo_T), n ≤ 8 → lo_ty w n x = y → ∀ (H : Heap) (locs : List Loc) (ls : Array Slot), lo_I D yI yC yO A s.heap h Ad x.2 H locs → lv_has ls 6 [(4, .int (lo_kv n)), (3, .int x.1), (0, .ref h), (1, .long w)] → W p l e lo_rm_types s m args below meth c H locs 0 0 Q (F0 m 6 ls []) := by
  have hx := hB.1.1
  have hb := hB.1.2.1
  have hown := hB.1.2.2.2.1
  have hts := hB.1.2.2.2.2
  intro n
  induction n with
  | zero =>
    intro x hn hy H locs ls hI hl
    have hy : x = y := hy
    subst hy
    refine lv_iload hx hb dL_types_6 (lv_at hl 0 rfl) ?_
    exact lv_if_lt (tgt := 53) hx hb dL_types_8 (by decide) (fun _ => kk H locs ls hI hl) (fun q => absurd (show lo_kv 0 < 0 by decide) q)
  | succ n ih =>
    intro x hn hy H locs ls hI hl
    have hy : lo_ty w n (lo_ty1 w (nI (8 * n)) x) = y := hy
    have hl : lv_has ls 6 [(4, .int (nI (8 * n))), (3, .int x.1), (0, .ref h), (1, .long w)] := hl
    refine lv_iload hx hb dL_types_6 (lv_at hl 0 rfl) ?_
    refine lv_if_lt (tgt := 53) hx hb dL_types_8 (by decide) (fun q => absurd q (nI_pos (by omega))) (fun _ => ?_)
    refine lv_lload_n hx hb dL_types_11 rfl (lv_at hl 3 rfl) ?_
    refine lv_iload hx hb dL_types_12 (lv_at hl 0 rfl) ?_
    refine lv_lshr hx hb dL_types_14 rfl ?_
    refine lv_ldc2 (v := 255) hx hb hown (hts (.constantLong RL 70 255) (by decide +kernel)) dL_types_15 ?_
    refine lv_land hx hb dL_types_18 ?_
    refine lv_l2i (v := lo_sgn w (nI (8 * n))) hx hb dL_types_19 rfl ?_
    refine lv_istore (lv' := [(5, .int (lo_sgn w (nI (8 * n)))), (4, .int (nI (8 * n))), (3, .int x.1), (0, .ref h), (1, .long w)]) hx hb dL_types_20 hl (by decide) rfl (fun ls hl => ?_)
    have k46 : ∀ (z : Int32 × lo_T), lo_ty1 w (nI (8 * n)) x = z → ∀ (H : Heap) (locs : List Loc), lo_I D yI yC yO A s.heap h Ad z.2 H locs → W p l e lo_rm_types s m args below meth c H locs 0 0 Q (F0 m 46 ls [.int z.1]) := by
      intro z hz H locs hI
      refine lv_istore_n (lv' := [(3, .int z.1), (5, .int (lo_sgn w (nI (8 * n)))), (4, .int (nI (8 * n))), (0, .ref h), (1, .long w)]) hx hb dL_types_46 rfl hl (by decide) rfl (fun ls hl => ?_)
      refine lv_iinc (v := lo_kv n) (lv' := [(4, .int (lo_kv n)), (3, .int z.1), (5, .int (lo_sgn w (nI (8 * n)))), (0, .ref h), (1, .long w)]) hx hb dL_types_47 hl (k := 2) rfl (lo_kvS n (by omega)) (by decide) rfl (fun ls hl => ?_)
      refine lv_goto (tgt := 6) hx hb dL_types_50 (by decide) ?_
      exact ih z (by omega) (by rw [← hz]; exact hy) H locs ls hI (lv_sub hl [0, 1, 3, 4] rfl)
    refine lv_iload_n hx hb dL_types_22 rfl (lv_at hl 2 rfl) ?_
    refine lv_if_eq (tgt := 45) hx hb dL_types_23 (by decide) (fun q => ?_) (fun q => ?_)
    · refine lv_iconst (v := 0) hx hb dL_types_45 (by decide) ?_
      exact k46 (0, x.2) (if_pos q) H locs hI
    · refine lv_iload hx hb dL_types_26 (lv_at hl 0 rfl) ?_
      refine lv_if_eq (tgt := 41) hx hb dL_types_28 (by decide) (fun q2 => ?_) (fun q2 => ?_)
      · refine lv_iconst (v := 1) hx hb dL_types_41 (by decide) ?_
        refine lv_goto (tgt := 46) hx hb dL_types_42 (by decide) ?_
        exact k46 (1, x.2) ((if_neg q).trans (if_pos q2)) H locs hI
      · obtain ⟨u, hP, hD, hS⟩ := hI
        refine lv_aload_n hx hb dL_types_31 rfl (lv_at hl 3 rfl) ?_
        refine lv_iload hx hb dL_types_32 (lv_at hl 0 rfl) ?_
        refine lv_i2c (v := ((lo_sgn w (nI (8 * n))).toUInt32 % 65536).toInt32) hx hb dL_types_34 rfl ?_
        refine lo_call (As := [.int ((lo_sgn w (nI (8 * n))).toUInt32 % 65536).toInt32]) hB (lo_c_type l D yI yC yO h Ad x.2 u ((lo_sgn w (nI (8 * n))).toUInt32 % 65536).toInt32 _) (kw_types_type hts) rfl hl.1 rfl (Nat.le_of_ble_eq_true rfl) dL_types_35 (Nat.zero_le _) (Nat.zero_le _) rfl rfl hP hD hS (fun u H locs hP hD hS => ?_)
        refine lv_if_le (tgt := 45) hx hb dL_types_38 (by decide) (fun q3 => ?_) (fun q3 => ?_)
        · refine lv_iconst (v := 0) hx hb dL_types_45 (by decide) ?_
          exact k46 (0, (lo_type x.2 ((lo_sgn w (nI (8 * n))).toUInt32 % 65536).toInt32).2) ((if_neg q).trans ((if_neg q2).trans (if_pos q3))) H locs ⟨u, hP, hD, hS⟩
        · refine lv_iconst (v := 1) hx hb dL_types_41 (by decide) ?_
          refine lv_goto (tgt := 46) hx hb dL_types_42 (by decide) ?_
          exact k46 (1, (lo_type x.2 ((lo_sgn w (nI (8 * n))).toUInt32 % 65536).toInt32).2) ((if_neg q).trans ((if_neg q2).trans (if_neg q3))) H locs ⟨u, hP, hD, hS⟩
end LOG
set_option maxHeartbeats 4000000 in
set_option maxRecDepth 100000 in
theorem lo_c_types (l : Launch) (D : va_G) (yI yC yO : ClassId) (h : Nat) (Ad : Nat → Nat → Nat) (σ : lo_T) (u : lo_U) (w : Int64) (sz : Nat) : Met l yL_types wsL_types lo_rm_types (va_Pc [.ref h, .long w] (lo_M D yI yC yO (lo_O yI yC yO h Ad σ u) sz)) (lo_Q D (lo_types σ w).1 (lo_O yI yC yO h Ad (lo_types σ w).2) (va_A (lo_O yI yC yO h Ad σ u) sz)) 0 0 (va_A (lo_O yI yC yO h Ad σ u) sz) := by
  refine Met.ofW (cc := cL_types) (maxL := 6) (ret := (some .boolean)) (by decide) rfl ?_
  intro p e s m args below meth c s₁ B0 hml hv
  obtain ⟨rfl, hM⟩ := hv
  have hB : lo_B p s m _ c cL_types 6 wsL_types D yI yC yO (va_A (lo_O yI yC yO h Ad σ u) sz) := lo_B.of B0.exec B0.bytes hml (findClass_of_methodNamed B0.named) (atoms_spec (ws := wsL_types) B0.pre) hM
  obtain ⟨hP, hD, hS⟩ := hM.S
  have hx := hB.1.1
  have hb := hB.1.2.1
  have hret := B0.returns
  have hlocks := B0.notSynchronized
  have hl := lv_entry ([.ref h, .long w]) (n := 6) (Nat.le_of_ble_eq_true rfl)
  rw [lg_entry_eq]
  generalize (lg_sl ([.ref h, .long w]) ++ List.replicate (6 - (lg_sl ([.ref h, .long w])).length) Slot.unset).toArray = ls at hl ⊢
  have hl : lv_has ls 6 [(0, .ref h), (1, .long w)] := hl
  generalize hAe : va_A (lo_O yI yC yO h Ad σ u) sz = A at hB hD hS ⊢
  refine lv_iconst (v := 1) hx hb dL_types_0 (by decide) ?_
  refine lv_istore_n (lv' := [(3, .int 1), (0, .ref h), (1, .long w)]) hx hb dL_types_1 rfl hl (by decide) rfl (fun ls hl => ?_)
  refine lv_bipush (v := 56) hx hb dL_types_2 (by decide) ?_
  refine lv_istore (lv' := [(4, .int 56), (3, .int 1), (0, .ref h), (1, .long w)]) hx hb dL_types_4 hl (by decide) rfl (fun ls hl => ?_)
  refine types_l hB (h := h) (Ad := Ad) (w := w) (y := lo_types σ w) (fun H locs ls hI hl => ?_) 8 (1, σ) (Nat.le_refl _) rfl _ _ _ ⟨u, hP, hD, hS⟩ hl
  obtain ⟨u, hP, hD, hS⟩ := hI
  refine lv_iload_n hx hb dL_types_53 rfl (lv_at hl 1 rfl) ?_
  exact W.zret (v := (lo_types σ w).1) hx hb hret (lt_zn (lo_ty01 w 8 (1, σ) (Or.inr rfl))) (fun t ht hW => ⟨⟨_, u, rfl, rfl, by rw [ht]; exact hP, hD⟩, hS.F ht⟩) hS.2.2 dL_types_54
theorem lo_P0 {D : va_G} {H : Heap} : va_P D vwCl ([] : va_W) H := fun k q h => by simp at h
theorem lo_D0 {A : Nat → Prop} : va_D A ([] : va_W) := ⟨fun i j p q h => by simp at h, fun k q h => by simp at h⟩
abbrev lo_rm_told : Room := { frames := 7, cells := 143, slots := 3511, locals := 210 }
theorem kw_told_types {args : Array Value} {s : State} (hts : ∀ w ∈ wsL_told, w.before args s = true) : CallB lo_rm_told s args RL 91 yL_types cL_types 6 (some .boolean) wsL_types lo_rm_types 0 0 2 ∧ (Cond.static yL_types).before args s = true := cwS 2 hts gL_told_L_types rfl rfl rfl (by decide +kernel) ⟨Nat.le_of_ble_eq_true rfl, Nat.le_of_ble_eq_true rfl⟩
theorem kw_told_takeBook {args : Array Value} {s : State} (hts : ∀ w ∈ wsL_told, w.before args s = true) : CallW lo_rm_told s args RL RX7 97 yX7_takeBook cX7_takeBook 2 (some .int) wsX7_takeBook ({ frames := 5, cells := 0, slots := 0, locals := 150 }) 0 0 0 := cwV 0 hts gL_told_X7_takeBook rfl rfl rfl (by decide +kernel) ⟨Nat.le_of_ble_eq_true rfl, Nat.le_of_ble_eq_true rfl⟩
theorem kw_told_count {args : Array Value} {s : State} (hts : ∀ w ∈ wsL_told, w.before args s = true) : CallW lo_rm_told s args RL RX7 13 yX7_count cX7_count 2 (some .int) wsX7_count ({ frames := 6, cells := 0, slots := 0, locals := 180 }) 0 0 1 := cwV 1 hts gL_told_X7_count rfl rfl rfl (by decide +kernel) ⟨Nat.le_of_ble_eq_true rfl, Nat.le_of_ble_eq_true rfl⟩
theorem ix_told : ∀ w ∈ wsX70, w ∈ wsL_told := by decide +kernel
set_option maxHeartbeats 4000000 in
set_option maxRecDepth 100000 in
theorem lo_c_toldP (l : Launch) (D : va_G) (yI yC yO : ClassId) (one other : Int64) (r : Int32) (sz : Nat) (h1 : (lo_types lo_t0 one).1 = 1) (h2 : (lo_types (lo_types lo_t0 one).2 other).1 = 1) (hz : lt_hz (lo_types (lo_types lo_t0 one).2 other).2.2.1) (h3 : (lo_takeBook (lo_types (lo_types lo_t0 one).2 other).2).1 = r) (hr : ¬ r ≤ 0) (h4 : (lo_count (lo_takeBook (lo_types (lo_types lo_t0 one).2 other).2).2 15).1 = 1) (h5 : (lo_count (lo_takeBook (lo_types (lo_types lo_t0 one).2 other).2).2 0).1 = r) : Met l yL_told wsL_told lo_rm_told (va_Pc [.long one, .long other] (lo_M D yI yC yO ([] : va_W) sz)) (lo_Q D r (fun (_ : Unit) => ([] : va_W)) (va_A ([] : va_W) sz)) 143 3511 (va_A ([] : va_W) sz) := by
  refine Met.ofW (cc := cL_told) (maxL := 6) (ret := (some .int)) (by decide) rfl ?_
  intro p e s m args below meth c s₁ B0 hml hv
  obtain ⟨rfl, hM⟩ := hv
  have hB : lo_B p s m _ c cL_told 6 wsL_told D yI yC yO (va_A ([] : va_W) sz) := lo_B.of B0.exec B0.bytes hml (findClass_of_methodNamed B0.named) (atoms_spec (ws := wsL_told) B0.pre) hM
  obtain ⟨hP, hD, hS⟩ := hM.S
  have hx := hB.1.1
  have hb := hB.1.2.1
  have hown := hB.1.2.2.2.1
  have hts := hB.1.2.2.2.2
  have hret := B0.returns
  have hlocks := B0.notSynchronized
  have hl := lv_entry ([.long one, .long other]) (n := 6) (Nat.le_of_ble_eq_true rfl)
  rw [lg_entry_eq]
  generalize (lg_sl ([.long one, .long other]) ++ List.replicate (6 - (lg_sl ([.long one, .long other])).length) Slot.unset).toArray = ls at hl ⊢
  have hl : lv_has ls 6 [(0, .long one), (2, .long other)] := hl
  generalize hAe : va_A ([] : va_W) sz = A at hB hD hS ⊢
  refine lo_new (wr := []) (rest := []) hB ix_told (by decide +kernel) (by decide +kernel) (by decide +kernel) (by decide +kernel) (by decide +kernel) gL_told_X7_init ⟨Nat.le_of_ble_eq_true rfl, Nat.le_of_ble_eq_true rfl⟩ hl.1 (Nat.le_of_ble_eq_true rfl) dL_told_0 dL_told_3 dL_told_4 (Nat.le_of_ble_eq_true rfl) (Nat.le_of_ble_eq_true rfl) hP hD hS (fun h Ad u H locs hP hD hS => ?_)
  have hP : va_P D vwCl (lo_O yI yC yO h Ad lo_t0 u) H := hP
  have hD : va_D A (lo_O yI yC yO h Ad lo_t0 u) := hD
  refine lv_astore (lv' := [(4, .ref h), (0, .long one), (2, .long other)]) hx hb dL_told_7 hl (by decide) rfl (fun ls hl => ?_)
  refine lv_aload hx hb dL_told_9 (lv_at hl 0 rfl) ?_
  refine lv_lload_n hx hb dL_told_11 rfl (lv_at hl 1 rfl) ?_
  refine lo_calls (As := [.ref h, .long one]) (v := 1) (σ' := (lo_types lo_t0 one).2) hB (lo_c_types l D yI yC yO h Ad lo_t0 u one _) (kw_told_types hts) rfl hl.1 rfl (Nat.le_of_ble_eq_true rfl) dL_told_12 (Nat.le_of_ble_eq_true rfl) (Nat.le_of_ble_eq_true rfl) h1 rfl hP hD hS (fun u H locs hP hD hS => ?_)
  refine lv_if_eq (tgt := 35) hx hb dL_told_15 (by decide) (fun q => absurd q (by decide)) (fun _ => ?_)
  refine lv_aload hx hb dL_told_18 (lv_at hl 0 rfl) ?_
  refine lv_lload_n hx hb dL_told_20 rfl (lv_at hl 2 rfl) ?_
  refine lo_calls (As := [.ref h, .long other]) (v := 1) (σ' := (lo_types (lo_types lo_t0 one).2 other).2) hB (lo_c_types l D yI yC yO h Ad (lo_types lo_t0 one).2 u other _) (kw_told_types hts) rfl hl.1 rfl (Nat.le_of_ble_eq_true rfl) dL_told_21 (Nat.le_of_ble_eq_true rfl) (Nat.le_of_ble_eq_true rfl) h2 rfl hP hD hS (fun u H locs hP hD hS => ?_)
  refine lv_if_eq (tgt := 35) hx hb dL_told_24 (by decide) (fun q => absurd q (by decide)) (fun _ => ?_)
  refine lv_aload hx hb dL_told_27 (lv_at hl 0 rfl) ?_
  refine lo_call (As := []) (v := r) (σ' := (lo_takeBook (lo_types (lo_types lo_t0 one).2 other).2).2) hB (lo_c_takeBook l D yI yC yO h Ad (lo_types (lo_types lo_t0 one).2 other).2 u _ hz) (kw_told_takeBook hts) rfl hl.1 rfl (Nat.le_of_ble_eq_true rfl) dL_told_29 (Nat.le_of_ble_eq_true rfl) (Nat.le_of_ble_eq_true rfl) h3 rfl hP hD hS (fun u H locs hP hD hS => ?_)
  refine lv_goto (tgt := 37) hx hb dL_told_32 (by decide) ?_
  refine lv_istore (lv' := [(5, .int r), (4, .ref h), (0, .long one), (2, .long other)]) hx hb dL_told_37 hl (by decide) rfl (fun ls hl => ?_)
  refine lv_aload hx hb dL_told_39 (lv_at hl 1 rfl) ?_
  refine lv_bipush (v := 15) hx hb dL_told_41 (by decide) ?_
  refine lo_call (As := [.int 15]) (v := 1) (σ' := (lo_takeBook (lo_types (lo_types lo_t0 one).2 other).2).2) hB (lo_c_count l D yI yC yO h Ad (lo_takeBook (lo_types (lo_types lo_t0 one).2 other).2).2 u 15 _) (kw_told_count hts) rfl hl.1 rfl (Nat.le_of_ble_eq_true rfl) dL_told_43 (Nat.le_of_ble_eq_true rfl) (Nat.le_of_ble_eq_true rfl) h4 rfl hP hD hS (fun u H locs hP hD hS => ?_)
  refine lv_iload hx hb dL_told_46 (lv_at hl 0 rfl) ?_
  refine lv_if_le (tgt := 55) hx hb dL_told_48 (by decide) (fun q => absurd q hr) (fun _ => ?_)
  refine lv_iconst (v := 1) hx hb dL_told_51 (by decide) ?_
  refine lv_goto (tgt := 56) hx hb dL_told_52 (by decide) ?_
  refine lv_icmp_ne (tgt := 84) hx hb dL_told_56 (by decide) (fun q => absurd rfl q) (fun _ => ?_)
  refine lv_aload hx hb dL_told_59 (lv_at hl 1 rfl) ?_
  refine lv_iconst (v := 0) hx hb dL_told_61 (by decide) ?_
  refine lo_call (As := [.int 0]) (v := r) (σ' := (lo_takeBook (lo_types (lo_types lo_t0 one).2 other).2).2) hB (lo_c_count l D yI yC yO h Ad (lo_takeBook (lo_types (lo_types lo_t0 one).2 other).2).2 u 0 _) (kw_told_count hts) rfl hl.1 rfl (Nat.le_of_ble_eq_true rfl) dL_told_62 (Nat.le_of_ble_eq_true rfl) (Nat.le_of_ble_eq_true rfl) h5 rfl hP hD hS (fun u H locs hP hD hS => ?_)
  refine lv_iload hx hb dL_told_65 (lv_at hl 0 rfl) ?_
  refine lv_if_le (tgt := 75) hx hb dL_told_67 (by decide) (fun q => absurd q hr) (fun _ => ?_)
  refine lv_iload hx hb dL_told_70 (lv_at hl 0 rfl) ?_
  refine lv_goto (tgt := 76) hx hb dL_told_72 (by decide) ?_
  refine lv_icmp_ne (tgt := 84) hx hb dL_told_76 (by decide) (fun q => absurd rfl q) (fun _ => ?_)
  refine lv_iload hx hb dL_told_79 (lv_at hl 0 rfl) ?_
  refine lv_goto (tgt := 86) hx hb dL_told_81 (by decide) ?_
  exact W.iret (v := r) hx hb hret (fun t ht hW => ⟨⟨_, (), rfl, rfl, lo_P0, lo_D0⟩, hS.F ht⟩) hS.2.2 dL_told_86

set_option maxHeartbeats 4000000 in
set_option maxRecDepth 100000 in
theorem lo_c_toldN (l : Launch) (D : va_G) (yI yC yO : ClassId) (one other : Int64) (r : Int32) (sz : Nat) (h1 : (lo_types lo_t0 one).1 = 1) (h2 : (lo_types (lo_types lo_t0 one).2 other).1 = 1) (hz : lt_hz (lo_types (lo_types lo_t0 one).2 other).2.2.1) (h3 : (lo_takeBook (lo_types (lo_types lo_t0 one).2 other).2).1 = r) (hr : r ≤ 0) (h4 : (lo_count (lo_takeBook (lo_types (lo_types lo_t0 one).2 other).2).2 15).1 = 0) (h5 : (lo_count (lo_takeBook (lo_types (lo_types lo_t0 one).2 other).2).2 0).1 = 0) : Met l yL_told wsL_told lo_rm_told (va_Pc [.long one, .long other] (lo_M D yI yC yO ([] : va_W) sz)) (lo_Q D r (fun (_ : Unit) => ([] : va_W)) (va_A ([] : va_W) sz)) 143 3511 (va_A ([] : va_W) sz) := by
  refine Met.ofW (cc := cL_told) (maxL := 6) (ret := (some .int)) (by decide) rfl ?_
  intro p e s m args below meth c s₁ B0 hml hv
  obtain ⟨rfl, hM⟩ := hv
  have hB : lo_B p s m _ c cL_told 6 wsL_told D yI yC yO (va_A ([] : va_W) sz) := lo_B.of B0.exec B0.bytes hml (findClass_of_methodNamed B0.named) (atoms_spec (ws := wsL_told) B0.pre) hM
  obtain ⟨hP, hD, hS⟩ := hM.S
  have hx := hB.1.1
  have hb := hB.1.2.1
  have hown := hB.1.2.2.2.1
  have hts := hB.1.2.2.2.2
  have hret := B0.returns
  have hlocks := B0.notSynchronized
  have hl := lv_entry ([.long one, .long other]) (n := 6) (Nat.le_of_ble_eq_true rfl)
  rw [lg_entry_eq]
  generalize (lg_sl ([.long one, .long other]) ++ List.replicate (6 - (lg_sl ([.long one, .long other])).length) Slot.unset).toArray = ls at hl ⊢
  have hl : lv_has ls 6 [(0, .long one), (2, .long other)] := hl
  generalize hAe : va_A ([] : va_W) sz = A at hB hD hS ⊢
  refine lo_new (wr := []) (rest := []) hB ix_told (by decide +kernel) (by decide +kernel) (by decide +kernel) (by decide +kernel) (by decide +kernel) gL_told_X7_init ⟨Nat.le_of_ble_eq_true rfl, Nat.le_of_ble_eq_true rfl⟩ hl.1 (Nat.le_of_ble_eq_true rfl) dL_told_0 dL_told_3 dL_told_4 (Nat.le_of_ble_eq_true rfl) (Nat.le_of_ble_eq_true rfl) hP hD hS (fun h Ad u H locs hP hD hS => ?_)
  have hP : va_P D vwCl (lo_O yI yC yO h Ad lo_t0 u) H := hP
  have hD : va_D A (lo_O yI yC yO h Ad lo_t0 u) := hD
  refine lv_astore (lv' := [(4, .ref h), (0, .long one), (2, .long other)]) hx hb dL_told_7 hl (by decide) rfl (fun ls hl => ?_)
  refine lv_aload hx hb dL_told_9 (lv_at hl 0 rfl) ?_
  refine lv_lload_n hx hb dL_told_11 rfl (lv_at hl 1 rfl) ?_
  refine lo_calls (As := [.ref h, .long one]) (v := 1) (σ' := (lo_types lo_t0 one).2) hB (lo_c_types l D yI yC yO h Ad lo_t0 u one _) (kw_told_types hts) rfl hl.1 rfl (Nat.le_of_ble_eq_true rfl) dL_told_12 (Nat.le_of_ble_eq_true rfl) (Nat.le_of_ble_eq_true rfl) h1 rfl hP hD hS (fun u H locs hP hD hS => ?_)
  refine lv_if_eq (tgt := 35) hx hb dL_told_15 (by decide) (fun q => absurd q (by decide)) (fun _ => ?_)
  refine lv_aload hx hb dL_told_18 (lv_at hl 0 rfl) ?_
  refine lv_lload_n hx hb dL_told_20 rfl (lv_at hl 2 rfl) ?_
  refine lo_calls (As := [.ref h, .long other]) (v := 1) (σ' := (lo_types (lo_types lo_t0 one).2 other).2) hB (lo_c_types l D yI yC yO h Ad (lo_types lo_t0 one).2 u other _) (kw_told_types hts) rfl hl.1 rfl (Nat.le_of_ble_eq_true rfl) dL_told_21 (Nat.le_of_ble_eq_true rfl) (Nat.le_of_ble_eq_true rfl) h2 rfl hP hD hS (fun u H locs hP hD hS => ?_)
  refine lv_if_eq (tgt := 35) hx hb dL_told_24 (by decide) (fun q => absurd q (by decide)) (fun _ => ?_)
  refine lv_aload hx hb dL_told_27 (lv_at hl 0 rfl) ?_
  refine lo_call (As := []) (v := r) (σ' := (lo_takeBook (lo_types (lo_types lo_t0 one).2 other).2).2) hB (lo_c_takeBook l D yI yC yO h Ad (lo_types (lo_types lo_t0 one).2 other).2 u _ hz) (kw_told_takeBook hts) rfl hl.1 rfl (Nat.le_of_ble_eq_true rfl) dL_told_29 (Nat.le_of_ble_eq_true rfl) (Nat.le_of_ble_eq_true rfl) h3 rfl hP hD hS (fun u H locs hP hD hS => ?_)
  refine lv_goto (tgt := 37) hx hb dL_told_32 (by decide) ?_
  refine lv_istore (lv' := [(5, .int r), (4, .ref h), (0, .long one), (2, .long other)]) hx hb dL_told_37 hl (by decide) rfl (fun ls hl => ?_)
  refine lv_aload hx hb dL_told_39 (lv_at hl 1 rfl) ?_
  refine lv_bipush (v := 15) hx hb dL_told_41 (by decide) ?_
  refine lo_call (As := [.int 15]) (v := 0) (σ' := (lo_takeBook (lo_types (lo_types lo_t0 one).2 other).2).2) hB (lo_c_count l D yI yC yO h Ad (lo_takeBook (lo_types (lo_types lo_t0 one).2 other).2).2 u 15 _) (kw_told_count hts) rfl hl.1 rfl (Nat.le_of_ble_eq_true rfl) dL_told_43 (Nat.le_of_ble_eq_true rfl) (Nat.le_of_ble_eq_true rfl) h4 rfl hP hD hS (fun u H locs hP hD hS => ?_)
  refine lv_iload hx hb dL_told_46 (lv_at hl 0 rfl) ?_
  refine lv_if_le (tgt := 55) hx hb dL_told_48 (by decide) (fun _ => ?_) (fun q => absurd hr q)
  refine lv_iconst (v := 0) hx hb dL_told_55 (by decide) ?_
  refine lv_icmp_ne (tgt := 84) hx hb dL_told_56 (by decide) (fun q => absurd rfl q) (fun _ => ?_)
  refine lv_aload hx hb dL_told_59 (lv_at hl 1 rfl) ?_
  refine lv_iconst (v := 0) hx hb dL_told_61 (by decide) ?_
  refine lo_call (As := [.int 0]) (v := 0) (σ' := (lo_takeBook (lo_types (lo_types lo_t0 one).2 other).2).2) hB (lo_c_count l D yI yC yO h Ad (lo_takeBook (lo_types (lo_types lo_t0 one).2 other).2).2 u 0 _) (kw_told_count hts) rfl hl.1 rfl (Nat.le_of_ble_eq_true rfl) dL_told_62 (Nat.le_of_ble_eq_true rfl) (Nat.le_of_ble_eq_true rfl) h5 rfl hP hD hS (fun u H locs hP hD hS => ?_)
  refine lv_iload hx hb dL_told_65 (lv_at hl 0 rfl) ?_
  refine lv_if_le (tgt := 75) hx hb dL_told_67 (by decide) (fun _ => ?_) (fun q => absurd hr q)
  refine lv_iconst (v := 0) hx hb dL_told_75 (by decide) ?_
  refine lv_icmp_ne (tgt := 84) hx hb dL_told_76 (by decide) (fun q => absurd rfl q) (fun _ => ?_)
  refine lv_iload hx hb dL_told_79 (lv_at hl 0 rfl) ?_
  refine lv_goto (tgt := 86) hx hb dL_told_81 (by decide) ?_
  exact W.iret (v := r) hx hb hret (fun t ht hW => ⟨⟨_, (), rfl, rfl, lo_P0, lo_D0⟩, hS.F ht⟩) hS.2.2 dL_told_86

