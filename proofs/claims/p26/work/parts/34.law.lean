/-! ===== the law: what it sees is of the state now alone ===== -/
def lo_S (n : lt_SV) : Int64 := lo_seen (0, 0, (fun _ => n), n, n, n, 0, lo_zF)
set_option maxRecDepth 20000 in
theorem lo_cntN (hs z hs' z' : Int32) (Vh Vh' : Nat → lt_SV) (i : Nat → Int32) (a : Nat → Nat → Int32) (len len' : Int32) (sg sg' : Nat → Int32) (p0 : Int32) (h1 : ¬ p0 = 15) (h2 : ¬ p0 = 16) : (X7_count hs z lo_zB Vh i a len sg 0 0 lo_zF lo_zF p0).1 = (X7_count hs' z' lo_zB Vh' i a len' sg' 0 0 lo_zF lo_zF p0).1 := by
  unfold X7_count
  dsimp only
  by_cases q0 : p0 = 0
  · rw [if_pos q0, if_pos q0]
  · rw [if_neg q0, if_neg q0]
    by_cases q1 : p0 = 1
    · rw [if_pos q1, if_pos q1]
    · rw [if_neg q1, if_neg q1]
      by_cases q2 : p0 = 2
      · rw [if_pos q2, if_pos q2]
      · rw [if_neg q2, if_neg q2]
        by_cases q3 : p0 = 3
        · rw [if_pos q3, if_pos q3]
          rfl
        · rw [if_neg q3, if_neg q3]
          by_cases q4 : p0 = 4
          · rw [if_pos q4, if_pos q4]
            rfl
          · rw [if_neg q4, if_neg q4]
            by_cases q5 : p0 = 5
            · rw [if_pos q5, if_pos q5]
              rfl
            · rw [if_neg q5, if_neg q5]
              by_cases q6 : p0 = 6
              · rw [if_pos q6, if_pos q6]
                rfl
              · rw [if_neg q6, if_neg q6]
                by_cases q7 : p0 = 7
                · rw [if_pos q7, if_pos q7]
                · rw [if_neg q7, if_neg q7]
                  by_cases q8 : p0 = 8
                  · rw [if_pos q8, if_pos q8]
                  · rw [if_neg q8, if_neg q8]
                    by_cases q9 : p0 = 9
                    · rw [if_pos q9, if_pos q9]
                    · rw [if_neg q9, if_neg q9]
                      by_cases q10 : p0 = 10
                      · rw [if_pos q10, if_pos q10]
                      · rw [if_neg q10, if_neg q10]
                        by_cases q11 : p0 = 11
                        · rw [if_pos q11, if_pos q11]
                        · rw [if_neg q11, if_neg q11]
                          by_cases q12 : p0 = 12
                          · rw [if_pos q12, if_pos q12]
                          · rw [if_neg q12, if_neg q12]
                            by_cases q13 : p0 = 13
                            · rw [if_pos q13, if_pos q13]
                            · rw [if_neg q13, if_neg q13]
                              by_cases q14 : p0 = 14
                              · rw [if_pos q14, if_pos q14]
                              · rw [if_neg q14, if_neg q14]
                                by_cases q15 : p0 = 15
                                · rw [if_pos q15, if_pos q15]
                                  exact absurd q15 h1
                                · rw [if_neg q15, if_neg q15]
                                  by_cases q16 : p0 = 16
                                  · rw [if_pos q16, if_pos q16]
                                    exact absurd q16 h2
                                  · rw [if_neg q16, if_neg q16]
theorem lo_bestL (hs hs' : Int32) (i : Nat → Int32) (a : Nat → Nat → Int32) : ∀ (fu : Nat) (v : Int32), X7_best_L15 hs i a fu v = X7_best_L15 hs' i a fu v := by
  intro fu
  induction fu with
  | zero => intro v; rfl
  | succ fu ih =>
    intro v
    unfold X7_best_L15
    dsimp only
    rw [ih]
theorem lo_bestN (hs hs' : Int32) (i : Nat → Int32) (a : Nat → Nat → Int32) : X7_best hs i a = X7_best hs' i a := by
  unfold X7_best
  dsimp only
  rw [lo_bestL hs hs']
theorem lo_seenS (σ : lo_T) : lo_seen σ = lo_S σ.2.2.2.1 := by
  have e1 : ∀ k, k ≤ 15 → lo_s1 σ k = lo_s1 (0, 0, (fun _ => σ.2.2.2.1), σ.2.2.2.1, σ.2.2.2.1, σ.2.2.2.1, 0, lo_zF) k := by
    intro k
    induction k with
    | zero => intro _; rfl
    | succ k ih =>
      intro hk
      have q1 : ¬ nI k = 15 := fun e => absurd ((nI_eq (a := k) (b := 15) (by omega) (by decide)).mp e) (by omega)
      have q2 : ¬ nI k = 16 := fun e => absurd ((nI_eq (a := k) (b := 16) (by omega) (by decide)).mp e) (by omega)
      have e : (lo_count σ (nI k)).1 = (lo_count (0, 0, (fun _ => σ.2.2.2.1), σ.2.2.2.1, σ.2.2.2.1, σ.2.2.2.1, 0, lo_zF) (nI k)).1 := lo_cntN _ _ _ _ _ _ _ _ _ _ _ _ _ q1 q2
      unfold lo_s1
      rw [ih (by omega), e]
  have e2 : ∀ (b : Int64) (k : Nat), lo_s2 σ b k = lo_s2 (0, 0, (fun _ => σ.2.2.2.1), σ.2.2.2.1, σ.2.2.2.1, σ.2.2.2.1, 0, lo_zF) b k := by
    intro b k
    induction k with
    | zero => rfl
    | succ k ih => unfold lo_s2; rw [ih]; rfl
  have e3 : ∀ (b : Int64) (k : Nat), lo_s3 σ b k = lo_s3 (0, 0, (fun _ => σ.2.2.2.1), σ.2.2.2.1, σ.2.2.2.1, σ.2.2.2.1, 0, lo_zF) b k := by
    intro b k
    induction k with
    | zero => rfl
    | succ k ih => unfold lo_s3; rw [ih]; rfl
  have e4 : ∀ (b : Int64) (k : Nat), lo_s4 σ b k = lo_s4 (0, 0, (fun _ => σ.2.2.2.1), σ.2.2.2.1, σ.2.2.2.1, σ.2.2.2.1, 0, lo_zF) b k := by
    intro b k
    induction k with
    | zero => rfl
    | succ k ih => unfold lo_s4; rw [ih]; rfl
  have e5 : (lo_best σ).1 = (lo_best (0, 0, (fun _ => σ.2.2.2.1), σ.2.2.2.1, σ.2.2.2.1, σ.2.2.2.1, 0, lo_zF)).1 := lo_bestN _ _ _ _
  unfold lo_S lo_seen
  rw [e1 15 (Nat.le_refl _), e2, e3, e4, e5]
theorem lo_W.G {σ : lo_T} (h : lo_W σ.2.2.2.1.1 σ.2.2.2.1.2) : lo_G σ := by
  obtain ⟨L, F, Z, u, a1, a2, a3, a4, a5, a6, e0, e1, e2, e8, hp, hs⟩ := h
  exact ⟨L, Z, a1, a2, a4, e0, e2⟩
/-! ===== the loop's ground: snapshot, history and the row of what was seen ===== -/
def lo_inv (n0 : lt_SV) (acts : Nat) (σ : lo_T) (f : Nat → Int64) : Prop := σ.1 = 1 ∧ σ.2.2.2.2.2.1 = n0 ∧ lo_W σ.2.2.2.1.1 σ.2.2.2.1.2 ∧
  ∃ zn : Nat, σ.2.1 = nI zn ∧ 1 ≤ zn ∧ zn ≤ 4 ∧ (zn = 4 ∨ zn = acts + 1) ∧ zn ≤ acts + 1 ∧ ∀ m : Nat, m < zn → m < acts → lo_W (σ.2.2.1 (zn - 1 - m)).1 (σ.2.2.1 (zn - 1 - m)).2 ∧ lo_S (σ.2.2.1 (zn - 1 - m)) = f (acts - 1 - m)
theorem lo_hzN {zn : Nat} (h : zn ≤ 4) : lt_hz (nI zn) := by
  rcases (show zn = 0 ∨ zn = 1 ∨ zn = 2 ∨ zn = 3 ∨ zn = 4 by omega) with rfl | rfl | rfl | rfl | rfl
  · exact Or.inl rfl
  · exact Or.inr (Or.inl rfl)
  · exact Or.inr (Or.inr (Or.inl rfl))
  · exact Or.inr (Or.inr (Or.inr (Or.inl rfl)))
  · exact Or.inr (Or.inr (Or.inr (Or.inr rfl)))
theorem lo_inv.z {n0 : lt_SV} {acts : Nat} {σ : lo_T} {f : Nat → Int64} (h : lo_inv n0 acts σ f) : lt_hz σ.2.1 := by
  obtain ⟨_, _, _, zn, e, _, h4, _⟩ := h
  rw [e]; exact lo_hzN h4
theorem lo_inv.f {n0 : lt_SV} {acts : Nat} {σ : lo_T} {f : Nat → Int64} (h : lo_inv n0 acts σ f) (v : Int64) : lo_inv n0 acts σ (vp_updL f acts v) := by
  obtain ⟨h1, h2, h3, zn, e, z1, z4, zc, zd, hm⟩ := h
  refine ⟨h1, h2, h3, zn, e, z1, z4, zc, zd, fun m m1 m2 => ⟨(hm m m1 m2).1, ?_⟩⟩
  rw [pk_uLn (by omega)]
  exact (hm m m1 m2).2
/-- an act's mark on the ground -/
theorem lo_inv.act {n0 : lt_SV} {acts : Nat} {σ : lo_T} {f : Nat → Int64} {X : Int32 × lo_T} (h : lo_inv n0 acts σ f) (hf : f acts = lo_S σ.2.2.2.1) (hX : lo_act σ X) :
    (X.1 < 0 ∧ lo_inv n0 acts X.2 f ∧ X.2.2.1 = σ.2.1 ∧ X.2.2.2.2.1 = σ.2.2.2.1) ∨ (0 ≤ X.1 ∧ lo_inv n0 (acts + 1) X.2 f) := by
  obtain ⟨h1, h2, h3, zn, e, z1, z4, zc, zd, hm⟩ := h
  rcases hX with ⟨x1, x2, x3, x4, x5, x6⟩ | ⟨x1, x2, x3, x4, x5, x6⟩
  · refine Or.inl ⟨x1, ⟨x2.trans h1, x6.trans h2, by rw [x5]; exact h3, zn, x3.trans e, z1, z4, zc, zd, ?_⟩, x3, x5⟩
    rw [x4]; exact hm
  · refine Or.inr ⟨x1, x2.trans h1, x6.trans h2, x5, ?_⟩
    by_cases c : zn = 4
    · have ez : σ.2.1 = 4 := by rw [e, c]; rfl
      have eV : X.2.2.2.1 = va_up (lt_rot σ.2.2.1) 3 (σ.2.2.2.1.1, σ.2.2.2.1.2) := by rw [x4]; exact if_pos ez
      refine ⟨4, by rw [x3]; exact if_pos ez, by omega, by omega, Or.inl rfl, by omega, fun m m1 m2 => ?_⟩
      by_cases cm : m = 0
      · subst cm
        have eq1 : X.2.2.2.1 (4 - 1 - 0) = σ.2.2.2.1 := by rw [eV]; exact if_pos rfl
        rw [eq1]
        exact ⟨h3, by rw [← hf]; congr 1⟩
      · have eq1 : X.2.2.2.1 (4 - 1 - m) = σ.2.2.1 (zn - 1 - (m - 1)) := by
          rw [eV]
          have g1 : ¬ 4 - 1 - m = 3 := by omega
          have e1 : va_up (lt_rot σ.2.2.1) 3 (σ.2.2.2.1.1, σ.2.2.2.1.2) (4 - 1 - m) = lt_rot σ.2.2.1 (4 - 1 - m) := if_neg g1
          have e2 : lt_rot σ.2.2.1 (4 - 1 - m) = σ.2.2.1 (4 - 1 - m + 1) := if_neg g1
          rw [e1, e2]
          exact congrArg σ.2.2.1 (show 4 - 1 - m + 1 = zn - 1 - (m - 1) by omega)
        rw [eq1]
        have q := hm (m - 1) (by omega) (by omega)
        exact ⟨q.1, q.2.trans (by congr 1; omega)⟩
    · have ez : ¬ σ.2.1 = 4 := by
        rw [e]
        exact fun q => c ((nI_eq (a := zn) (b := 4) (by omega) (by decide)).mp q)
      have eV : X.2.2.2.1 = va_up σ.2.2.1 zn (σ.2.2.2.1.1, σ.2.2.2.1.2) := by
        rw [x4]
        refine (if_neg ez).trans ?_
        rw [e, nI_clamp (by omega)]
      refine ⟨zn + 1, by rw [x3]; exact (if_neg ez).trans (by rw [e, nI_1]), by omega, by omega, by omega, by omega, fun m m1 m2 => ?_⟩
      by_cases cm : m = 0
      · subst cm
        have eq1 : X.2.2.2.1 (zn + 1 - 1 - 0) = σ.2.2.2.1 := by rw [eV]; exact if_pos rfl
        rw [eq1]
        exact ⟨h3, by rw [← hf]; congr 1⟩
      · have eq1 : X.2.2.2.1 (zn + 1 - 1 - m) = σ.2.2.1 (zn - 1 - (m - 1)) := by
          rw [eV]
          have g1 : ¬ zn + 1 - 1 - m = zn := by omega
          have e1 : va_up σ.2.2.1 zn (σ.2.2.2.1.1, σ.2.2.2.1.2) (zn + 1 - 1 - m) = σ.2.2.1 (zn + 1 - 1 - m) := if_neg g1
          rw [e1]
          exact congrArg σ.2.2.1 (show zn + 1 - 1 - m = zn - 1 - (m - 1) by omega)
        rw [eq1]
        have q := hm (m - 1) (by omega) (by omega)
        exact ⟨q.1, q.2.trans (by congr 1; omega)⟩
/-! ===== part, drawn ===== -/
abbrev lo_rm_part : Room := { frames := 0, cells := 0, slots := 0, locals := 0 }
abbrev lo_rm_drawn : Room := { frames := 0, cells := 0, slots := 0, locals := 0 }
def lo_part (v n : Int32) : Int32 := (v &&& 2147483647) - (v &&& 2147483647) / n * n
theorem lo_partR (v : Int32) {n : Int32} {N : Nat} (hn : n = nI N) (h0 : 0 < N) (h : N < 2147483648) : ∃ j : Nat, j < N ∧ lo_part v n = nI j := by
  obtain ⟨j, hj, ej⟩ := pk_andE v (m := 2147483647) 31 (by decide)
  refine ⟨j % N, Nat.mod_lt _ h0, ?_⟩
  unfold lo_part
  rw [ej, hn]
  exact pk_rem (by omega) h0 h
set_option maxHeartbeats 4000000 in
set_option maxRecDepth 100000 in
theorem lo_c_part (l : Launch) (D : va_G) (yI yC yO : ClassId) (v n : Int32) (sz : Nat) (hn : ¬ n = 0) : Met l yL_part wsL_part lo_rm_part (va_Pc [.int v, .int n] (lo_M D yI yC yO ([] : va_W) sz)) (lo_Q D (lo_part v n) (fun (_ : Unit) => ([] : va_W)) (va_A ([] : va_W) sz)) 0 0 (va_A ([] : va_W) sz) := by
  refine Met.ofW (cc := cL_part) (maxL := 2) (ret := (some .int)) (by decide) rfl ?_
  intro p e s m args below meth c s₁ B0 hml hv
  obtain ⟨rfl, hM⟩ := hv
  have hB : lo_B p s m _ c cL_part 2 wsL_part D yI yC yO (va_A ([] : va_W) sz) := lo_B.of B0.exec B0.bytes hml (findClass_of_methodNamed B0.named) (atoms_spec (ws := wsL_part) B0.pre) hM
  obtain ⟨hP, hD, hS⟩ := hM.S
  have hx := hB.1.1
  have hb := hB.1.2.1
  have hown := hB.1.2.2.2.1
  have hts := hB.1.2.2.2.2
  have hret := B0.returns
  have hlocks := B0.notSynchronized
  have hl := lv_entry ([.int v, .int n]) (n := 2) (Nat.le_of_ble_eq_true rfl)
  rw [lg_entry_eq]
  generalize (lg_sl ([.int v, .int n]) ++ List.replicate (2 - (lg_sl ([.int v, .int n])).length) Slot.unset).toArray = ls at hl ⊢
  have hl : lv_has ls 2 [(0, .int v), (1, .int n)] := hl
  refine lv_iload_n hx hb dL_part_0 rfl (lv_at hl 0 rfl) ?_
  refine lv_ldc (v := 2147483647) hx hb hown (hts (.constant RL 7 2147483647) (by decide +kernel)) dL_part_1 ?_
  refine lv_iand hx hb dL_part_3 ?_
  refine lv_iload_n hx hb dL_part_4 rfl (lv_at hl 1 rfl) ?_
  refine lv_irem hx hb dL_part_5 hn ?_
  exact W.iret (v := lo_part v n) hx hb hret (fun t ht hW => ⟨⟨_, (), rfl, rfl, lo_P0, lo_D0⟩, hS.F ht⟩) hS.2.2 dL_part_6
def lo_drawn (L : Nat) (xs : Nat → Int32) (k : Int32) : Int32 := if Int32.ofNat L = 0 then 7919 * k + 3 else (xs (k - k / Int32.ofNat L * Int32.ofNat L).toNatClampNeg >>> ((k - k / 7 * 7) &&& 31)) ^^^ (k / Int32.ofNat L * 31) ^^^ (k * 2654435)
def lo_Mx (D : va_G) (yI yC yO : ClassId) (b L : Nat) (xs : Nat → Int32) (sz : Nat) (U : State) : Prop := lo_M D yI yC yO ([] : va_W) sz U ∧ va_X b L xs U U.heap ∧ b < sz
set_option maxHeartbeats 4000000 in
set_option maxRecDepth 100000 in
theorem lo_c_drawn (l : Launch) (D : va_G) (yI yC yO : ClassId) (b L k : Nat) (xs : Nat → Int32) (sz : Nat) (hL : L < 100000) (hk : k < 100000) : Met l yL_drawn wsL_drawn lo_rm_drawn (va_Pc [.ref b, .int (nI k)] (lo_Mx D yI yC yO b L xs sz)) (lo_Q D (lo_drawn L xs (nI k)) (fun (_ : Unit) => ([] : va_W)) (va_A ([] : va_W) sz)) 0 0 (va_A ([] : va_W) sz) := by
  refine Met.ofW (cc := cL_drawn) (maxL := 2) (ret := (some .int)) (by decide) rfl ?_
  intro p e s m args below meth c s₁ B0 hml hv
  obtain ⟨rfl, hM, hX, hbs⟩ := hv
  have hB : lo_B p s m _ c cL_drawn 2 wsL_drawn D yI yC yO (va_A ([] : va_W) sz) := lo_B.of B0.exec B0.bytes hml (findClass_of_methodNamed B0.named) (atoms_spec (ws := wsL_drawn) B0.pre) hM
  obtain ⟨hP, hD, hS⟩ := hM.S
  have hx := hB.1.1
  have hb := hB.1.2.1
  have hown := hB.1.2.2.2.1
  have hts := hB.1.2.2.2.2
  have hret := B0.returns
  have hlocks := B0.notSynchronized
  have hbl : b < s.heap.size := by rw [hM.1.1]; exact hbs
  have hbA : ¬ va_A ([] : va_W) sz b := by
    intro h
    rcases h with ⟨q, e, h⟩ | h
    · simp at h
    · omega
  have hl := lv_entry ([.ref b, .int (nI k)]) (n := 2) (Nat.le_of_ble_eq_true rfl)
  rw [lg_entry_eq]
  generalize (lg_sl ([.ref b, .int (nI k)]) ++ List.replicate (2 - (lg_sl ([.ref b, .int (nI k)])).length) Slot.unset).toArray = ls at hl ⊢
  have hl : lv_has ls 2 [(0, .ref b), (1, .int (nI k))] := hl
  have kk : ∀ x : Int32, lo_drawn L xs (nI k) = x → W p l e lo_rm_drawn s m #[Value.ref b, Value.int (nI k)] below meth c s.heap [] 0 0 (MQ below (lo_Q D (lo_drawn L xs (nI k)) (fun (_ : Unit) => ([] : va_W)) (va_A ([] : va_W) sz)) #[Value.ref b, Value.int (nI k)] s 0 0 (va_A ([] : va_W) sz)) (F0 m 39 ls [.int x]) := by
    intro x hxx
    subst hxx
    exact W.iret (v := lo_drawn L xs (nI k)) hx hb hret (fun t ht hW => ⟨⟨_, (), rfl, rfl, lo_P0, lo_D0⟩, hS.F ht⟩) hS.2.2 dL_drawn_39
  refine lv_aload_n hx hb dL_drawn_0 rfl (lv_at hl 0 rfl) ?_
  refine va_slen hx hb hX hbl hbA hS dL_drawn_1 ?_
  refine lv_if_ne (tgt := 15) hx hb dL_drawn_2 (by decide) (fun q => ?_) (fun q => ?_)
  · have hL0 : 0 < L := by
      rcases Nat.eq_zero_or_pos L with e | e
      · exact absurd (by rw [e]; rfl) q
      · exact e
    have er : nI k - nI k / Int32.ofNat L * Int32.ofNat L = nI (k % L) := pk_rem (by omega) hL0 (by omega)
    refine lv_aload_n hx hb dL_drawn_15 rfl (lv_at hl 0 rfl) ?_
    refine lv_iload_n hx hb dL_drawn_16 rfl (lv_at hl 1 rfl) ?_
    refine lv_aload_n hx hb dL_drawn_17 rfl (lv_at hl 0 rfl) ?_
    refine va_slen hx hb hX hbl hbA hS dL_drawn_18 ?_
    refine lv_irem hx hb dL_drawn_19 q ?_
    refine va_sld hx hb hX hbl hbA hS (by rw [er]; exact vp_in_nI (Nat.mod_lt _ hL0) (by omega)) dL_drawn_20 ?_
    refine lv_iload_n hx hb dL_drawn_21 rfl (lv_at hl 1 rfl) ?_
    refine lv_bipush (v := 7) hx hb dL_drawn_22 (by decide) ?_
    refine lv_irem hx hb dL_drawn_24 (by decide) ?_
    refine lv_ishr hx hb dL_drawn_25 ?_
    refine lv_iload_n hx hb dL_drawn_26 rfl (lv_at hl 1 rfl) ?_
    refine lv_aload_n hx hb dL_drawn_27 rfl (lv_at hl 0 rfl) ?_
    refine va_slen hx hb hX hbl hbA hS dL_drawn_28 ?_
    refine lv_idiv hx hb dL_drawn_29 q ?_
    refine lv_bipush (v := 31) hx hb dL_drawn_30 (by decide) ?_
    refine lv_imul hx hb dL_drawn_32 ?_
    refine lv_ixor hx hb dL_drawn_33 ?_
    refine lv_iload_n hx hb dL_drawn_34 rfl (lv_at hl 1 rfl) ?_
    refine lv_ldc (v := 2654435) hx hb hown (hts (.constant RL 8 2654435) (by decide +kernel)) dL_drawn_35 ?_
    refine lv_imul hx hb dL_drawn_37 ?_
    refine lv_ixor hx hb dL_drawn_38 ?_
    exact kk _ (if_neg q)
  · refine lv_sipush (v := 7919) hx hb dL_drawn_5 (by decide) ?_
    refine lv_iload_n hx hb dL_drawn_8 rfl (lv_at hl 1 rfl) ?_
    refine lv_imul hx hb dL_drawn_9 ?_
    refine lv_iconst (v := 3) hx hb dL_drawn_10 (by decide) ?_
    refine lv_iadd hx hb dL_drawn_11 ?_
    refine lv_goto (tgt := 39) hx hb dL_drawn_12 (by decide) ?_
    exact kk _ (if_pos q)
theorem lo_Dc {A : Nat → Prop} {w1 w2 : va_W} (h : va_D A (w1 ++ w2)) : va_D A (w2 ++ w1) := by
  refine va_D.app (lo_Dr h) (lo_Dl h) (fun i j p q hi hj e => ?_)
  have hjl := (List.getElem?_eq_some_iff.mp hj).1
  have h1 := h.1 (w1.length + i) j p q (by rw [List.getElem?_append_right (Nat.le_add_right _ _), Nat.add_sub_cancel_left]; exact hi) (by rw [List.getElem?_append_left hjl]; exact hj) e
  omega
theorem lo_Pc {D : va_G} {cl : List vw_C} {w1 w2 : va_W} {H : Heap} (h : va_P D cl (w1 ++ w2) H) : va_P D cl (w2 ++ w1) H := va_P.app (lo_Pr h) (lo_Pl h)
section LOK
variable {p : Program} {l : Launch} {e : Env} {R : Room} {s : State} {m : MethodId} {args : Array Value} {below : List Frame} {meth : Method} {c : Code} {H : Heap} {locs : List Loc} {cells slots : Nat} {Q : State → Prop}
variable {pc : Nat} {ls : Array Slot} {rest st0 : List Value} {a : Array Value} {A : Nat → Prop} {mc ms : Nat} {D : va_G} {yI yC yO : ClassId} {cc : ByteArray} {nL : Nat} {Ts : List Cond}
/-- part, called; any world stands by -/
theorem lo_parts {ws : va_W} {v n : Int32} {index : Nat} (hB : lo_B p s m args c cc nL Ts D yI yC yO A) (hn : ¬ n = 0)
    (cw : CallB R s args RL index yL_part cL_part 2 (some .int) wsL_part lo_rm_part 0 0 2 ∧ (Cond.static yL_part).before args s = true)
    (hsize : ls.size = nL) (hW : (rest.map fun v => v.category).sum ≤ 8) (hdg : decode cc pc = .ok (.invokestatic index, 3)) (hc : cells ≤ R.cells) (hs : slots ≤ R.slots)
    (hP : va_P D vwCl ws H) (hD : va_D A ws) (hS : va_S A s.heap H locs)
    (kk : ∀ (H1 : Heap) (locs1 : List Loc), va_P D vwCl ws H1 → va_D A ws → va_S A s.heap H1 locs1 → W p l e R s m args below meth c H1 locs1 cells slots Q (F0 m (pc + 3) ls (.int (lo_part v n) :: rest))) : W p l e R s m args below meth c H locs cells slots Q (F0 m pc ls (.int n :: .int v :: rest)) := by
  have e : ws ++ ([] : va_W) = ws := List.append_nil ws
  refine lo_callS (As := [.int v, .int n]) (mc := 0) (ms := 0) (wr := ws) (wc := []) (Wo := fun (_ : Unit) => ([] : va_W)) hB (lo_c_part l D yI yC yO v n H.size hn) cw rfl hsize rfl hW hdg hc hs (by rw [e]; exact hP) (by rw [e]; exact hD) hS (fun _ H1 locs1 hP hD hS => ?_)
  rw [e] at hP hD
  exact kk H1 locs1 hP hD hS
/-- drawn, called -/
theorem lo_drawns {ws : va_W} {b L k : Nat} {xs : Nat → Int32} {index : Nat} (hB : lo_B p s m args c cc nL Ts D yI yC yO A) (hL : L < 100000) (hk : k < 100000) (hX : va_X b L xs s s.heap) (hbl : b < s.heap.size) (hbA : ¬ A b)
    (cw : CallB R s args RL index yL_drawn cL_drawn 2 (some .int) wsL_drawn lo_rm_drawn 0 0 2 ∧ (Cond.static yL_drawn).before args s = true)
    (hsize : ls.size = nL) (hW : (rest.map fun v => v.category).sum ≤ 8) (hdg : decode cc pc = .ok (.invokestatic index, 3)) (hc : cells ≤ R.cells) (hs : slots ≤ R.slots)
    (hP : va_P D vwCl ws H) (hD : va_D A ws) (hS : va_S A s.heap H locs)
    (kk : ∀ (H1 : Heap) (locs1 : List Loc), va_P D vwCl ws H1 → va_D A ws → va_S A s.heap H1 locs1 → W p l e R s m args below meth c H1 locs1 cells slots Q (F0 m (pc + 3) ls (.int (lo_drawn L xs (nI k)) :: rest))) : W p l e R s m args below meth c H locs cells slots Q (F0 m pc ls (.int (nI k) :: .ref b :: rest)) := by
  have e : ws ++ ([] : va_W) = ws := List.append_nil ws
  obtain ⟨hfix, hK, hAO, hZf, hZm, hA⟩ := hB
  have hP' : va_P D vwCl (ws ++ ([] : va_W)) H := by rw [e]; exact hP
  have hD' : va_D A (ws ++ ([] : va_W)) := by rw [e]; exact hD
  have hS0 := lo_qS (As := [.ref b, .int (nI k)]) hK hAO hZf hZm (lo_Pr hP') (lo_Dr hD') hS (lo_subA hD' (fun q h => hA q (Nat.le_trans hS.1 h)))
  have hpre : PreS s H (va_Pc [.ref b, .int (nI k)] (lo_Mx D yI yC yO b L xs H.size)) [.ref b, .int (nI k)] := by
    refine ⟨fun a U g mk q => ?_, fun U hU hW => ⟨rfl, (hS0.2 U hU hW).2, ?_, Nat.lt_of_lt_of_le hbl hS.1⟩⟩
    · have q1 := hS0.1 a U g mk ⟨q.1, q.2.1⟩
      exact ⟨q1.1, q1.2, va_X.moved (u := U) (U := U.calling g mk a) (Vm.Alike.refl U.vm) q.2.2.1, q.2.2.2⟩
    · rw [hU]
      exact va_X.moved hW.alike (hX.kept (hS.2.1 b hbl hbA))
  refine lo_cI (mc := 0) (ms := 0) (wr := ws) (wc := []) (Wo := fun (_ : Unit) => ([] : va_W)) hA (va_runS (As := [.ref b, .int (nI k)]) (rest := rest) hfix (lo_c_drawn l D yI yC yO b L k xs H.size hL hk) cw hpre rfl rfl hsize rfl (lv_room hW) hdg ⟨hc, hs⟩) hP' hD' hS (fun _ H1 locs1 hP hD hS => ?_)
  rw [e] at hP hD
  exact kk H1 locs1 hP hD hS
end LOK
