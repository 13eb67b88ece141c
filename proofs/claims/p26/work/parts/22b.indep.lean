/-! ===== what the page set held before doesn't matter ===== -/
def lo_zB : Nat → Nat → Nat := fun _ _ => 0
def lo_zF : Nat → Int32 := fun _ => 0
def lo_gA (n : Int) (g g' : Nat → Int32) : Prop := ∀ j : Nat, j < 80 → (j : Int) < n → g j = g' j
def lo_cA (c c' : Nat → Int32) : Prop := ∀ j : Nat, j < 60 → c j = c' j
theorem lo_has0 {n : Nat} {f : Nat → Int32} {i : Int32} (hn : n < 2147483648) (h : X3_has n f i = 0) : i.toInt < 0 ∨ (n : Int) ≤ i.toInt := by
  unfold X3_has at h
  split at h
  · next h1 => exact Or.inl (by have := Int32.lt_iff_toInt_lt.mp h1; have h6 : (0 : Int32).toInt = 0 := by decide
                                omega)
  · split at h
    · next h2 =>
      have h3 := Int32.le_iff_toInt_le.mp h2
      have h5 : (Int32.ofNat n).toInt = (n : Int) := nI_toInt hn
      exact Or.inr (by omega)
    · exact absurd h (by decide)
theorem lo_vin {i : Int32} {n : Nat} (h : vp_in i n) : 0 ≤ i.toInt ∧ i.toInt < n ∧ (i.toNatClampNeg : Int) = i.toInt := by
  obtain ⟨h1, h2⟩ := vp_in_iff.mp h
  refine ⟨h1, h2, ?_⟩
  show ((i.toInt.toNat : Nat) : Int) = i.toInt
  omega
theorem lo_atC {c c' : Nat → Int32} (h : lo_cA c c') (p : Int32) : X3_at 60 c p = X3_at 60 c' p := by
  show (if X3_has 60 c p = 0 then (-5) else c p.toNatClampNeg) = (if X3_has 60 c p = 0 then (-5) else c' p.toNatClampNeg)
  by_cases q : X3_has 60 c p = 0
  · rw [if_pos q, if_pos q]
  · rw [if_neg q, if_neg q]
    have h1 := lo_vin (lt_has (by decide) q)
    exact h _ (by omega)
theorem lo_atG {n : Int} {g g' : Nat → Int32} (h : lo_gA n g g') (p : Int32) (hp : p.toInt < n) : X3_at 80 g p = X3_at 80 g' p := by
  show (if X3_has 80 g p = 0 then (-5) else g p.toNatClampNeg) = (if X3_has 80 g p = 0 then (-5) else g' p.toNatClampNeg)
  by_cases q : X3_has 80 g p = 0
  · rw [if_pos q, if_pos q]
  · rw [if_neg q, if_neg q]
    have h1 := lo_vin (lt_has (by decide) q)
    exact h _ (by omega) (by omega)
theorem lo_putC {c c' : Nat → Int32} (h : lo_cA c c') (k v : Int32) : lo_cA (X3_put 60 c k v) (X3_put 60 c' k v) := by
  intro j hj
  show (if X3_has 60 c k = 0 then c else upd c k.toNatClampNeg v) j = (if X3_has 60 c k = 0 then c' else upd c' k.toNatClampNeg v) j
  by_cases q : X3_has 60 c k = 0
  · rw [if_pos q, if_pos q]; exact h j hj
  · rw [if_neg q, if_neg q]
    by_cases y : j = k.toNatClampNeg
    · subst y; rw [pk_us, pk_us]
    · rw [pk_un y, pk_un y]; exact h j hj
theorem lo_putG {g g' : Nat → Int32} {k : Int32} (h : lo_gA k.toInt g g') (v : Int32) : lo_gA (k.toInt + 1) (X3_put 80 g k v) (X3_put 80 g' k v) := by
  intro j hj hn
  show (if X3_has 80 g k = 0 then g else upd g k.toNatClampNeg v) j = (if X3_has 80 g k = 0 then g' else upd g' k.toNatClampNeg v) j
  by_cases q : X3_has 80 g k = 0
  · rw [if_pos q, if_pos q]
    have h1 := lo_has0 (by decide) q
    exact h j hj (by omega)
  · rw [if_neg q, if_neg q]
    by_cases y : j = k.toNatClampNeg
    · subst y; rw [pk_us, pk_us]
    · rw [pk_un y, pk_un y]
      have h1 := lo_vin (lt_has (by decide) q)
      exact h j hj (by omega)
theorem lo_choose {pi pa pi' pa' : Int32} {gs gs' ch ch' : Nat → Int32} (h : lo_cA ch ch') (z : Int32) (pg nu gu pr : Nat → Int32) (p0 p1 : Int32) : lo_cA (X4_choose pi pa gs ch z pg nu gu pr p0 p1) (X4_choose pi' pa' gs' ch' z pg nu gu pr p0 p1) := by
  unfold X4_choose
  dsimp only
  rw [← lo_atC h p1]
  by_cases c1 : X3_at 60 ch p1 = (-5)
  · rw [if_pos c1, if_pos c1]; exact lo_putC h p1 p0
  · rw [if_neg c1, if_neg c1]
    by_cases c2 : X5_isGood z pg nu gu pr (X3_at 60 ch p1) = 0
    · rw [if_pos c2, if_pos c2]
      by_cases c3 : X5_isGood z pg nu gu pr p0 = 0
      · rw [if_pos c3, if_pos c3]; exact h
      · rw [if_neg c3, if_neg c3]; exact lo_putC h p1 p0
    · rw [if_neg c2, if_neg c2]; exact h
theorem lo_makeL {pi pa pi' pa' : Int32} {gs gs' ch ch' : Nat → Int32} {i : Nat → Int32} {a : Nat → Nat → Int32} : ∀ (fu : Nat) (v2 v3 pi0 pa0 : Int32) (g g' c c' : Nat → Int32), lt_fu fu pi0 v3 → lo_gA v3.toInt g g' → lo_cA c c' →
    ∃ (gn gn' cn cn' : Nat → Int32), X4_makeFor_L36 pi pa gs ch i a fu v2 v3 pi0 pa0 g c = (pi0, pa0, gn, cn) ∧ X4_makeFor_L36 pi' pa' gs' ch' i a fu v2 v3 pi0 pa0 g' c' = (pi0, pa0, gn', cn') ∧ lo_gA pi0.toInt gn gn' ∧ lo_cA cn cn' := by
  intro fu
  induction fu with
  | zero => intro v2 v3 pi0 pa0 g g' c c' h; exact absurd h lt_fu0
  | succ fu ih =>
    intro v2 v3 pi0 pa0 g g' c c' hf hg hc
    by_cases q : pi0 ≤ v3
    · have h1 := Int32.le_iff_toInt_le.mp q
      exact ⟨g, g', c, c', if_pos q, if_pos q, fun j hj hn => hg j hj (by omega), hc⟩
    · have hf2 := lt_fuS hf (lt_nle q)
      have hg2 : lo_gA (v3 + 1).toInt (X3_put 80 g v3 (X4_guessOf pi0 pa0 g c i a v3 v2)) (X3_put 80 g' v3 (X4_guessOf pi0 pa0 g c i a v3 v2)) := by
        rw [lt_add1 (lt_nle q)]
        exact lo_putG hg _
      have eG : X4_guessOf pi0 pa0 g' c' i a v3 v2 = X4_guessOf pi0 pa0 g c i a v3 v2 := rfl
      by_cases y : X4_guessOf pi0 pa0 g c i a v3 v2 = (-5)
      · obtain ⟨gn, gn', cn, cn', x1, x2, x3, x4⟩ := ih (X4_guessOf pi0 pa0 g c i a v3 v2) (v3 + 1) pi0 pa0 _ _ c c' hf2 hg2 hc
        refine ⟨gn, gn', cn, cn', ?_, ?_, x3, x4⟩
        · refine (if_neg q).trans ?_
          dsimp only
          rw [if_pos y]; exact x1
        · refine (if_neg q).trans ?_
          dsimp only
          rw [eG, if_pos y]; exact x2
      · obtain ⟨gn, gn', cn, cn', x1, x2, x3, x4⟩ := ih (X4_guessOf pi0 pa0 g c i a v3 v2) (v3 + 1) pi0 pa0 _ _ _ _ hf2 hg2 (lo_choose (pi := pi0) (pa := pa0) (pi' := pi0) (pa' := pa0) (gs := X3_put 80 g v3 (X4_guessOf pi0 pa0 g c i a v3 v2)) (gs' := X3_put 80 g' v3 (X4_guessOf pi0 pa0 g c i a v3 v2)) hc (i 2) (a 3) (a 4) (a 5) (a 6) v3 (X4_guessOf pi0 pa0 g c i a v3 v2))
        refine ⟨gn, gn', cn, cn', ?_, ?_, x3, x4⟩
        · refine (if_neg q).trans ?_
          dsimp only
          rw [if_neg y]; exact x1
        · refine (if_neg q).trans ?_
          dsimp only
          rw [eG, if_neg y]; exact x2
theorem lo_fillL {n : Nat} {f : Nat → Int32} : ∀ (fu k : Nat) (g : Nat → Int32), k ≤ 60 → 60 - k < fu → (∀ p, p < k → g p = (-5)) → ∀ p, p < 60 → J7_fill_53178_L5 60 f (-5) fu (nI k) g p = (-5) := by
  intro fu
  induction fu with
  | zero => intro k g _ h; omega
  | succ fu ih =>
    intro k g hk h hg p hp
    by_cases q : k = 60
    · subst q
      have e : J7_fill_53178_L5 60 f (-5) (fu + 1) (nI 60) g = g := if_pos (show Int32.ofNat 60 ≤ nI 60 from nI_le (Nat.le_refl _) (by decide))
      rw [e]; exact hg p hp
    · have e : J7_fill_53178_L5 60 f (-5) (fu + 1) (nI k) g = J7_fill_53178_L5 60 f (-5) fu (nI (k + 1)) (upd g k (-5)) := by
        refine (if_neg (show ¬ Int32.ofNat 60 ≤ nI k from nI_ge (b := 60) (by omega) (by decide))).trans ?_
        rw [nI_1, nI_clamp (by omega)]
      rw [e]
      refine ih (k + 1) _ (by omega) (by omega) (fun j hj => ?_) p hp
      by_cases y : j = k
      · subst y; exact pk_us
      · rw [pk_un y]; exact hg j (by omega)
theorem lo_fill {f : Nat → Int32} {p : Nat} (hp : p < 60) : X3_putAll 60 f (-5) p = (-5) := lo_fillL (n := 0) (f := f) _ 0 f (by decide) (by decide) (fun p h => absurd h (by omega)) p hp
theorem lo_make (pi pa pi' pa' : Int32) (gs gs' ch ch' : Nat → Int32) (i : Nat → Int32) (a : Nat → Nat → Int32) :
    ∃ (x y : Int32) (gn gn' cn cn' : Nat → Int32), X4_makeFor pi pa gs ch i a = (x, y, gn, cn) ∧ X4_makeFor pi' pa' gs' ch' i a = (x, y, gn', cn') ∧ x = i 2 ∧ lo_gA x.toInt gn gn' ∧ lo_cA cn cn' := by
  obtain ⟨gn, gn', cn, cn', x1, x2, x3, x4⟩ := lo_makeL (pi := pi) (pa := pa) (pi' := pi') (pa' := pa') (gs := gs) (gs' := gs') (ch := ch) (ch' := ch') (i := i) (a := a) ((((i 2) : Int32).toInt - (0 : Int32).toInt).toNat + 1) (-5) 0 (i 2) (X0_pages (i 0) (a 0) (a 1) (a 2)) gs gs' (X3_putAll 60 ch (-5)) (X3_putAll 60 ch' (-5)) (lt_fuI _ _)
    (fun j _ hn => absurd hn (by have h6 : (0 : Int32).toInt = 0 := by decide
                                 omega)) (fun j hj => by rw [lo_fill hj, lo_fill hj])
  exact ⟨i 2, _, gn, gn', cn, cn', x1, x2, rfl, x3, x4⟩
theorem lo_spare {n : Int} {pi pa pi' pa' : Int32} {g g' c c' : Nat → Int32} (hg : lo_gA n g g') (hc : lo_cA c c') (p : Int32) (hp : p.toInt < n) : X4_isSpare pi pa g c p = X4_isSpare pi' pa' g' c' p := by
  unfold X4_isSpare
  dsimp only
  rw [← lo_atG hg p hp, ← lo_atC hc (X3_at 80 g p)]
theorem lo_doubt {pi pa pi' pa' : Int32} {g g' c c' : Nat → Int32} (hc : lo_cA c c') (z : Int32) (pg nu gu pr : Nat → Int32) (p : Int32) : X4_isDoubtful pi pa g c z pg nu gu pr p = X4_isDoubtful pi' pa' g' c' z pg nu gu pr p := by
  unfold X4_isDoubtful
  dsimp only
  rw [← lo_atC hc p]
theorem lo_lackL {pi pa pi' : Int32} {g g' c c' : Nat → Int32} (hc : lo_cA c c') (p0 : Int32) : ∀ (fu : Nat) (v2 v3 : Int32), X4_lackingAt_L4 pi pa g c p0 fu v2 v3 = X4_lackingAt_L4 pi' pa g' c' p0 fu v2 v3 := by
  intro fu
  induction fu with
  | zero => intro v2 v3; rfl
  | succ fu ih =>
    intro v2 v3
    unfold X4_lackingAt_L4
    dsimp only
    rw [← lo_atC hc v3, ih, ih]
theorem lo_lackC {pi pa pi' : Int32} {g g' c c' : Nat → Int32} (hc : lo_cA c c') : ∀ (fu : Nat) (v1 v2 : Int32), X4_howManyLack_L4 pi pa g c fu v1 v2 = X4_howManyLack_L4 pi' pa g' c' fu v1 v2 := by
  intro fu
  induction fu with
  | zero => intro v1 v2; rfl
  | succ fu ih =>
    intro v1 v2
    unfold X4_howManyLack_L4
    dsimp only
    rw [← lo_atC hc v2, ih, ih]
theorem lo_doubtC {pi pa pi' : Int32} {g g' c c' : Nat → Int32} (hc : lo_cA c c') (z : Int32) (pg nu gu pr : Nat → Int32) : ∀ (fu : Nat) (v1 v2 : Int32), X4_howManyDoubtful_L4 pi pa g c z pg nu gu pr fu v1 v2 = X4_howManyDoubtful_L4 pi' pa g' c' z pg nu gu pr fu v1 v2 := by
  intro fu
  induction fu with
  | zero => intro v1 v2; rfl
  | succ fu ih =>
    intro v1 v2
    unfold X4_howManyDoubtful_L4
    dsimp only
    rw [lo_doubt (pi := pi) (pa := pa) (pi' := pi') (pa' := pa) (g := g) (g' := g') hc z pg nu gu pr v2, ih, ih]
theorem lo_spareC {pi pa pa' : Int32} {g g' c c' : Nat → Int32} (hg : lo_gA pi.toInt g g') (hc : lo_cA c c') : ∀ (fu : Nat) (v1 v2 : Int32), X4_howManySpare_L4 pi pa g c fu v1 v2 = X4_howManySpare_L4 pi pa' g' c' fu v1 v2 := by
  intro fu
  induction fu with
  | zero => intro v1 v2; rfl
  | succ fu ih =>
    intro v1 v2
    unfold X4_howManySpare_L4
    dsimp only
    by_cases q : pi ≤ v2
    · rw [if_pos q, if_pos q]
    · rw [if_neg q, if_neg q, lo_spare (pi := pi) (pa := pa) (pi' := pi) (pa' := pa') hg hc v2 (Int32.lt_iff_toInt_lt.mp (lt_nle q)), ih, ih]
theorem lo_notC {pi pa pa' : Int32} {g g' c c' : Nat → Int32} (hg : lo_gA pi.toInt g g') : ∀ (fu : Nat) (v1 v2 : Int32), X4_howManyNotGuessed_L4 pi pa g c fu v1 v2 = X4_howManyNotGuessed_L4 pi pa' g' c' fu v1 v2 := by
  intro fu
  induction fu with
  | zero => intro v1 v2; rfl
  | succ fu ih =>
    intro v1 v2
    unfold X4_howManyNotGuessed_L4
    dsimp only
    by_cases q : pi ≤ v2
    · rw [if_pos q, if_pos q]
    · rw [if_neg q, if_neg q, ← lo_atG hg v2 (Int32.lt_iff_toInt_lt.mp (lt_nle q)), ih, ih]
theorem lo_j_lacking (hs : Int32) (i : Nat → Int32) (a : Nat → Nat → Int32) (pi pa : Int32) (gs ch : Nat → Int32) (pi' pa' : Int32) (gs' ch' : Nat → Int32) (p0 : Int32) : (X7_lacking hs i a pi pa gs ch p0).1 = (X7_lacking hs i a pi' pa' gs' ch' p0).1 := by
  obtain ⟨x, y, gn, gn', cn, cn', e1, e2, e3, hg, hc⟩ := lo_make pi pa pi' pa' gs gs' ch ch' i a
  unfold X7_lacking
  dsimp only
  rw [e1, e2]
  by_cases q : 0 ≤ p0
  · rw [if_pos q, if_pos q]
    exact lo_lackL (pi := x) (pa := y) (pi' := x) (g := gn) (g' := gn') hc p0 _ _ _
  · rw [if_neg q, if_neg q]
theorem lo_j_cis (hs : Int32) (i : Nat → Int32) (a : Nat → Nat → Int32) (pi pa : Int32) (gs ch : Nat → Int32) (pi' pa' : Int32) (gs' ch' : Nat → Int32) (p0 : Int32) : (X7_countInSet hs i a pi pa gs ch p0).1 = (X7_countInSet hs i a pi' pa' gs' ch' p0).1 := by
  obtain ⟨x, y, gn, gn', cn, cn', e1, e2, e3, hg, hc⟩ := lo_make pi pa pi' pa' gs gs' ch ch' i a
  unfold X7_countInSet
  dsimp only
  rw [e1, e2]
  by_cases q3 : p0 = 3
  · rw [if_pos q3, if_pos q3]
    exact lo_lackC (pi := x) (pa := y) (pi' := x) (g := gn) (g' := gn') hc _ _ _
  · rw [if_neg q3, if_neg q3]
    by_cases q4 : p0 = 4
    · rw [if_pos q4, if_pos q4]
      exact lo_doubtC (pi := x) (pa := y) (pi' := x) (g := gn) (g' := gn') hc _ _ _ _ _ _ _ _
    · rw [if_neg q4, if_neg q4]
      by_cases q5 : p0 = 5
      · rw [if_pos q5, if_pos q5]
        exact lo_spareC (pi := x) (pa := y) (pa' := y) hg hc _ _ _
      · rw [if_neg q5, if_neg q5]
        by_cases q6 : p0 = 6
        · rw [if_pos q6, if_pos q6]
          exact lo_notC (pi := x) (pa := y) (pa' := y) (c := cn) (c' := cn') hg _ _ _
        · rw [if_neg q6, if_neg q6]
set_option maxRecDepth 20000 in
theorem lo_j_count (hs z : Int32) (Bh : Nat → Nat → Nat) (Vh : Nat → lt_SV) (i : Nat → Int32) (a : Nat → Nat → Int32) (len : Int32) (sg : Nat → Int32) (B' : Nat → Nat → Nat) (pi pa : Int32) (gs ch : Nat → Int32) (pi' pa' : Int32) (gs' ch' : Nat → Int32) (p0 : Int32) : (X7_count hs z Bh Vh i a len sg pi pa gs ch p0).1 = (X7_count hs z B' Vh i a len sg pi' pa' gs' ch' p0).1 := by
  unfold X7_count
  dsimp only
  by_cases q0 : p0 = 0
  · rw [if_pos q0, if_pos q0]
  · rw [if_neg q0, if_neg q0]
    by_cases q1 : p0 = 1
    · rw [if_pos q1, if_pos q1]
    · rw [if_neg q1, if_neg q1]
      by_cases q2 : p0 = 2
      · rw [if_pos q2, if_pos q2]
      · rw [if_neg q2, if_neg q2]
        by_cases q3 : p0 = 3
        · rw [if_pos q3, if_pos q3]
          exact lo_j_cis hs i a pi pa gs ch pi' pa' gs' ch' p0
        · rw [if_neg q3, if_neg q3]
          by_cases q4 : p0 = 4
          · rw [if_pos q4, if_pos q4]
            exact lo_j_cis hs i a pi pa gs ch pi' pa' gs' ch' p0
          · rw [if_neg q4, if_neg q4]
            by_cases q5 : p0 = 5
            · rw [if_pos q5, if_pos q5]
              exact lo_j_cis hs i a pi pa gs ch pi' pa' gs' ch' p0
            · rw [if_neg q5, if_neg q5]
              by_cases q6 : p0 = 6
              · rw [if_pos q6, if_pos q6]
                exact lo_j_cis hs i a pi pa gs ch pi' pa' gs' ch' p0
              · rw [if_neg q6, if_neg q6]
                by_cases q7 : p0 = 7
                · rw [if_pos q7, if_pos q7]
                · rw [if_neg q7, if_neg q7]
                  by_cases q8 : p0 = 8
                  · rw [if_pos q8, if_pos q8]
                  · rw [if_neg q8, if_neg q8]
                    by_cases q9 : p0 = 9
                    · rw [if_pos q9, if_pos q9]
                    · rw [if_neg q9, if_neg q9]
                      by_cases q10 : p0 = 10
                      · rw [if_pos q10, if_pos q10]
                      · rw [if_neg q10, if_neg q10]
                        by_cases q11 : p0 = 11
                        · rw [if_pos q11, if_pos q11]
                        · rw [if_neg q11, if_neg q11]
                          by_cases q12 : p0 = 12
                          · rw [if_pos q12, if_pos q12]
                          · rw [if_neg q12, if_neg q12]
                            by_cases q13 : p0 = 13
                            · rw [if_pos q13, if_pos q13]
                            · rw [if_neg q13, if_neg q13]
                              by_cases q14 : p0 = 14
                              · rw [if_pos q14, if_pos q14]
                              · rw [if_neg q14, if_neg q14]
                                by_cases q15 : p0 = 15
                                · rw [if_pos q15, if_pos q15]
                                · rw [if_neg q15, if_neg q15]
                                  by_cases q16 : p0 = 16
                                  · rw [if_pos q16, if_pos q16]
                                  · rw [if_neg q16, if_neg q16]
theorem lo_j_page (hs : Int32) (i : Nat → Int32) (a : Nat → Nat → Int32) (pi pa : Int32) (gs ch : Nat → Int32) (pi' pa' : Int32) (gs' ch' : Nat → Int32) (p0 p1 : Int32) : (X7_page hs i a pi pa gs ch p0 p1).1 = (X7_page hs i a pi' pa' gs' ch' p0 p1).1 := by
  obtain ⟨x, y, gn, gn', cn, cn', e1, e2, e3, hg, hc⟩ := lo_make pi pa pi' pa' gs gs' ch ch' i a
  unfold X7_page
  dsimp only
  rw [e1, e2]
  dsimp only
  rw [lo_atC hc p0, lo_doubt (pi := x) (pa := y) (pi' := x) (pa' := y) (g := gn) (g' := gn') hc (i 2) (a 3) (a 4) (a 5) (a 6) p0]
  repeat' split
  all_goals rfl
theorem lo_phas {z : Int32} {pg nu gu pr : Nat → Int32} {p : Int32} (h : ¬ X5_has z pg nu gu pr p = 0) : p.toInt < z.toInt := by
  unfold X5_has at h
  split at h
  · exact absurd rfl h
  · split at h
    · exact absurd rfl h
    · next h1 h2 => exact Int32.lt_iff_toInt_lt.mp (lt_nle h2)
theorem lo_j_picture (hs : Int32) (i : Nat → Int32) (a : Nat → Nat → Int32) (pi pa : Int32) (gs ch : Nat → Int32) (pi' pa' : Int32) (gs' ch' : Nat → Int32) (p0 p1 : Int32) : (X7_picture hs i a pi pa gs ch p0 p1).1 = (X7_picture hs i a pi' pa' gs' ch' p0 p1).1 := by
  obtain ⟨x, y, gn, gn', cn, cn', e1, e2, e3, hg, hc⟩ := lo_make pi pa pi' pa' gs gs' ch ch' i a
  unfold X7_picture
  dsimp only
  rw [e1, e2]
  dsimp only
  by_cases q : X5_has (i 2) (a 3) (a 4) (a 5) (a 6) p0 = 0
  · rw [if_pos q, if_pos q]
  · have hp : p0.toInt < x.toInt := by rw [e3]; exact lo_phas q
    rw [if_neg q, if_neg q, lo_atG hg p0 hp, lo_spare (pi := x) (pa := y) (pi' := x) (pa' := y) hg hc p0 hp]
    repeat' split
    all_goals rfl
