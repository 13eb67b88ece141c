set_option maxRecDepth 100000
section ACTSC
variable {hs z : Int32} {Bh : Nat → Nat → Nat} {Vh : Nat → lt_SV} {i0 : Nat → Int32} {a0 : Nat → Nat → Int32} {i1 : Nat → Int32} {a1 : Nat → Nat → Int32} {i2 : Nat → Int32} {a2 : Nat → Nat → Int32} {len : Int32} {sg : Nat → Int32} {i : Nat → Int32} {a : Nat → Nat → Int32}
theorem lq_isR {L F Z : Nat} (c : RS L F Z i0 a0 (a 0)) : (F = L ∧ X8_isRight i a = 0 ∧ X6_leavesOnRight i0 a0 = 0) ∨ (F < L ∧ X8_isRight i a = 1 ∧ ¬ X6_leavesOnRight i0 a0 = 0) := by
  have hL := c.1.1
  have hFL := c.1.2.1
  have e0 : X6_leavesOnRight i0 a0 = nI (L - F) := lq_onR c.f c.l hFL
  by_cases cF : F = L
  · left
    refine ⟨cF, ?_, by rw [e0, cF, Nat.sub_self]; rfl⟩
    unfold X8_isRight
    rw [c.1.l, c.1.f]
    exact if_pos (nI_le (by omega) (by omega))
  · right
    refine ⟨by omega, ?_, by rw [e0]; exact nI_ne0 (by omega) (by omega)⟩
    unfold X8_isRight
    rw [c.1.l, c.1.f]
    exact if_neg (nI_ge (by omega) (by omega))
theorem lq_isRS : S_X8_isRight i a := ⟨fun _ => trivial, fun _ => trivial⟩
theorem sim_would (h : RW hs z Vh i0 a0 i2 a2 len sg i a) (p : Int32) : S_X8_would i a p ∧ X7_would hs i0 a0 p = X8_would i a p := by
  obtain ⟨b, ⟨L, F, Z, c⟩, d, g⟩ := h
  unfold X7_would X8_would S_X8_would
  rcases lq_suc p with ⟨e1, e2⟩ | ⟨e1, e2, -⟩
  · rw [e1, e2]
    dsimp only
    rw [if_pos (show (0 : Int32) = 0 from rfl), if_pos (show (0 : Int32) = 0 from rfl)]
    exact ⟨fun r hr => ⟨fun _ => trivial, fun q => absurd hr q⟩, rfl⟩
  · rw [e1, e2]
    dsimp only
    rw [if_neg (show ¬ (1 : Int32) = 0 by decide), if_neg (show ¬ (1 : Int32) = 0 by decide)]
    rcases lq_isR (i := i) c with ⟨x1, x2, x3⟩ | ⟨x1, x2, x3⟩
    · rw [x2, if_pos x3, if_pos rfl]
      exact ⟨fun r hr => ⟨fun _ => trivial, fun _ => ⟨lq_isRS, fun r1 hr1 => ⟨fun _ => trivial, fun q => absurd hr1 q⟩⟩⟩, rfl⟩
    · obtain ⟨l1, l2, -⟩ := lq_lift c x1 p
      rw [x2, if_neg x3, if_neg (show ¬ (1 : Int32) = 0 by decide), l1]
      exact ⟨fun r hr => ⟨fun _ => trivial, fun _ => ⟨lq_isRS, fun r1 hr1 => ⟨fun _ => trivial, fun _ => ⟨l2, fun _ _ => trivial⟩⟩⟩⟩, rfl⟩
theorem lq_bestL {L F Z : Nat} (c : RS L F Z i0 a0 (a 0)) (hF : F < L) : ∀ (fu : Nat) (v : Int32), X7_best_L15 hs i0 a0 fu v = X8_best_L12 i a fu v ∧ S_X8_best_L12 i a fu v := by
  intro fu
  induction fu with
  | zero => intro v; exact ⟨rfl, trivial⟩
  | succ fu ih =>
    intro v
    obtain ⟨l1, l2, -⟩ := lq_lift c hF v
    obtain ⟨i1, i2⟩ := ih (v + 1)
    refine ⟨?_, ⟨fun _ => trivial, fun _ => ⟨l2, fun r _ => ⟨fun _ => trivial, fun _ => ⟨i2, trivial⟩⟩⟩⟩⟩
    show (if 20 < v then (-5 : Int32) else if X6_liftedBy i0 a0 v = 1 then v else X7_best_L15 hs i0 a0 fu (v + 1)) = (if 20 < v then (-5 : Int32) else if X8_wouldTurn (a 0) v = 1 then v else X8_best_L12 i a fu (v + 1))
    rw [l1, i1]
theorem sim_best (h : RW hs z Vh i0 a0 i2 a2 len sg i a) : S_X8_best i a ∧ X7_best hs i0 a0 = X8_best i a := by
  obtain ⟨b, ⟨L, F, Z, c⟩, d, g⟩ := h
  unfold X7_best X8_best S_X8_best
  rcases lq_isR (i := i) c with ⟨x1, x2, x3⟩ | ⟨x1, x2, x3⟩
  · dsimp only
    rw [x2, if_pos x3, if_pos rfl]
    exact ⟨⟨lq_isRS, fun r1 hr1 => ⟨fun _ => trivial, fun q => absurd hr1 q⟩⟩, rfl⟩
  · obtain ⟨l1, l2⟩ := lq_bestL (hs := hs) (i := i) c x1 (((21 : Int32).toInt - (1 : Int32).toInt).toNat + 1) 1
    dsimp only
    rw [x2, if_neg x3, if_neg (show ¬ (1 : Int32) = 0 by decide)]
    exact ⟨⟨lq_isRS, fun r1 hr1 => ⟨fun _ => trivial, fun _ => ⟨l2, trivial⟩⟩⟩, l1⟩
theorem sim_open (h : RW hs z Vh i0 a0 i2 a2 len sg i a) (p : Int32) : S_X8_open i a p ∧ X7_open hs i0 a0 p = X8_open i a p := by
  obtain ⟨b, ⟨L, F, Z, c⟩, d, g⟩ := h
  have hL := c.1.1
  have hFL := c.1.2.1
  refine ⟨fun r _ => ⟨fun _ => trivial, fun _ => ⟨lq_openS, fun _ _ => trivial⟩⟩, ?_⟩
  unfold X7_open X8_open
  rcases lq_inr (p := p) (lo := 0) (hi := 1) (by decide) (by decide) with ⟨h1, h2⟩ | ⟨h1, h2, h3, k, -, h5, h6⟩
  · have h1' : X8_in p 0 1 = 0 := h1
    have n0 : ¬ p = 0 := fun e => by subst e; exact absurd h2 (by decide)
    have n1 : ¬ p = 1 := fun e => by subst e; exact absurd h2 (by decide)
    rw [h1', if_neg n0, if_neg n1]; rfl
  · have h1' : X8_in p 0 1 = 1 := h1
    rw [h1']
    dsimp only
    rw [if_neg (show ¬ (1 : Int32) = 0 by decide)]
    rcases (show k = 0 ∨ k = 1 by omega) with rfl | rfl
    · have p0 : p = 0 := h6
      subst p0
      rw [if_pos rfl]
      by_cases cF : F = 0
      · subst cF; rw [lq_cL0 c.f, lq_oL0 c.1.f]
      · rw [lq_cL1 c.f (by omega) (by omega), lq_oL1 c.1.f (by omega) (by omega)]
    · have p0 : p = 1 := h6
      subst p0
      rw [if_neg (by decide), if_pos rfl]
      by_cases cF : F = L
      · rw [lq_cR0 c.f c.l cF, lq_oR0 c.1.f c.1.l cF]
      · rw [lq_cR1 c.f c.l (by omega) hL, lq_oR1 c.1.f c.1.l (by omega) hL]
theorem sim_leaf (h : RW hs z Vh i0 a0 i2 a2 len sg i a) (p0 p1 : Int32) : S_X8_leaf i a p0 p1 ∧ X7_leaf hs i0 a0 p0 p1 = X8_leaf i a p0 p1 := by
  obtain ⟨b, ⟨L, F, Z, c⟩, d, g⟩ := h
  have hL := c.1.1
  have hFL := c.1.2.1
  have z0 : X7_asNumber 0 = 0 := rfl
  have z1 : X7_asNumber 1 = 1 := rfl
  unfold X7_leaf X8_leaf S_X8_leaf
  rw [c.1.l, c.l]
  rcases pk_ix p0 (n := L) (by omega) with q | q | ⟨k, hk, hp⟩
  · have e1 : X8_in p0 0 (nI L - 1) = 0 := lq_in0 (by omega) (Or.inl q)
    rw [e1, if_pos q]
    exact ⟨fun r hr => ⟨fun _ => trivial, fun e => absurd hr e⟩, rfl⟩
  · have e1 : X8_in p0 0 (nI L - 1) = 0 := lq_in0 (by omega) (Or.inr q)
    have q2 : ¬ p0 < nI L := Int32.not_lt.mpr q
    rw [e1]
    by_cases q3 : p0 < 0
    · rw [if_pos q3]
      exact ⟨fun r hr => ⟨fun _ => trivial, fun e => absurd hr e⟩, rfl⟩
    · rw [if_neg q3, if_neg q2]
      exact ⟨fun r hr => ⟨fun _ => trivial, fun e => absurd hr e⟩, rfl⟩
  · have e1 : X8_in p0 0 (nI L - 1) = 1 := by rw [hp]; exact lq_in1 (by omega) hk
    have q1 : ¬ p0 < 0 := by rw [hp]; exact nI_pos (by omega)
    have q2 : p0 < nI L := by rw [hp]; exact nI_lt hk (by omega)
    have v1 : vp_in (12 + p0) 532 := by rw [hp]; exact lq_v (m := 12) rfl (by omega) (by decide)
    have v2 : vp_in (42 + p0) 532 := by rw [hp]; exact lq_v (m := 42) rfl (by omega) (by decide)
    have x1 : X3_at 30 (a0 0) p0 = a 0 (12 + k) := by rw [hp, lq_at (by omega) (by decide)]; exact (c.2.2.2.1 k hk).1
    have x2 : X3_at 30 (a0 1) p0 = a 0 (42 + k) := by rw [hp, lq_at (by omega) (by decide)]; exact (c.2.2.2.1 k hk).2
    have y1 : (12 + p0).toNatClampNeg = 12 + k := by rw [hp]; exact lq_c (m := 12) rfl (by omega)
    have y2 : (42 + p0).toNatClampNeg = 42 + k := by rw [hp]; exact lq_c (m := 42) rfl (by omega)
    rw [e1, if_neg q1, if_pos q2, x1, x2, y1, y2, c.f, c.1.f]
    dsimp only
    rw [if_neg (show ¬ (1 : Int32) = 0 by decide), z0, z1]
    refine ⟨?_, rfl⟩
    intro r _
    refine ⟨fun _ => trivial, fun _ => ?_⟩
    repeat' first | exact trivial | exact v1 | exact v2 | apply And.intro | intro _
/-- room for a pair -/
theorem lq_room {L F Z : Nat} {f : Nat → Int32} (c : RS L F Z i0 a0 f) : (Z + lq_n L F ≤ 80 ∧ X6_hasRoomForPair i0 a0 = 1) ∨ (80 < Z + lq_n L F ∧ X6_hasRoomForPair i0 a0 = 0) := by
  have hZ := c.1.2.2.1
  have hn : lq_n L F ≤ 2 := by unfold lq_n; split <;> split <;> omega
  have e : X6_pagesOpen i0 a0 = nI (lq_n L F) := lq_pagesOpen c.l c.f c.1.2.1 c.1.1
  unfold X6_hasRoomForPair
  rw [e, c.z]
  dsimp only
  rw [nI_add]
  by_cases q : Z + lq_n L F ≤ 80
  · left
    exact ⟨q, if_neg (show ¬ (80 : Int32) < nI (Z + lq_n L F) from nI_nlt (a := 80) (b := Z + lq_n L F) q (by decide))⟩
  · right
    exact ⟨by omega, if_pos (nI_lt (a := 80) (by omega) (by omega))⟩
theorem lq_laysS (f f' : Nat → Int32) : S_X8_lays 532 532 f f' 0 0 := (lq_lays (n := 532) (n' := 532) (x := 0) (y := 0) (f := f) (f' := f') (c1 := 0) (c3 := 0) rfl rfl (by omega) (by omega) (by omega) (by omega)).2
theorem lq_lays0 {f f' : Nat → Int32} {k : Nat} (hk : k < 532) : X8_lays 532 532 f f' 0 0 k = f k := by
  rw [(lq_lays (n := 532) (n' := 532) (x := 0) (y := 0) (f := f) (f' := f') (c1 := 0) (c3 := 0) rfl rfl (by omega) (by omega) (by omega) (by omega)).1]
  show (if 0 ≤ k ∧ k < 0 + 532 then f (0 + (k - 0)) else f' k) = _
  rw [if_pos (by omega)]
  congr 1; omega
theorem lq_hasBook {L F Z : Nat} {f : Nat → Int32} (c : RS L F Z i0 a0 f) : (L = 0 ∧ X6_hasBook i0 a0 = 0 ∧ f 0 = 0) ∨ (0 < L ∧ X6_hasBook i0 a0 = 1 ∧ ¬ f 0 = 0) := by
  have hL := c.1.1
  unfold X6_hasBook
  rw [c.l, c.1.l]
  by_cases e : L = 0
  · subst e; left; exact ⟨rfl, if_pos (by decide), rfl⟩
  · right; exact ⟨by omega, if_neg (nI_nle (by omega) (by omega)), nI_ne0 (by omega) (by omega)⟩
theorem sim_shoot (h : RW hs z Vh i0 a0 i2 a2 len sg i a) :
    S_X8_shoot i a ∧ (X7_shoot hs z Bh Vh i0 a0).1 = (X8_shoot i a).1 ∧ RW hs (X7_shoot hs z Bh Vh i0 a0).2.1 (X7_shoot hs z Bh Vh i0 a0).2.2.2.1 (X7_shoot hs z Bh Vh i0 a0).2.2.2.2.1 (X7_shoot hs z Bh Vh i0 a0).2.2.2.2.2 i2 a2 len sg (X8_shoot i a).2.1 (X8_shoot i a).2.2 := by
  have h0 := h
  obtain ⟨b, ⟨L, F, Z, c⟩, d, g⟩ := h
  have hZ := c.1.2.2.1
  have hn : lq_n L F ≤ 2 := by unfold lq_n; split <;> split <;> omega
  unfold X7_shoot X8_shoot S_X8_shoot
  rcases lq_hasBook c with ⟨x1, x2, x3⟩ | ⟨x1, x2, x3⟩
  · rw [x2]
    dsimp only
    rw [if_pos (show (0 : Int32) = 0 from rfl), if_pos x3]
    exact ⟨⟨fun _ => trivial, fun q => absurd x3 q⟩, rfl, h0⟩
  · rw [x2]
    dsimp only
    rw [if_neg (show ¬ (1 : Int32) = 0 by decide), if_neg x3]
    have ct : RS L F Z i0 a0 (X8_lays 532 532 (a 0) (a 1) 0 0) := c.congr (fun k hk => lq_lays0 hk)
    obtain ⟨w1, w2, w3⟩ := lq_shotsW ct.1 x1
    have eN : a 0 2 + (X8_shots (X8_lays 532 532 (a 0) (a 1) 0 0)).1 = nI (Z + lq_n L F) := by rw [c.1.z, w2, nI_add]
    obtain ⟨r1, r2, r3, r4⟩ := lq_act (h0.a1 (X8_shots (X8_lays 532 532 (a 0) (a 1) 0 0)).2)
    have hS : (¬ a 0 0 = 0 → S_X8_lays 532 532 (a 0) (a 1) 0 0 ∧ ∀ x_22, x_22 = X8_lays 532 532 (a 0) (a 1) 0 0 → S_X8_shots x_22 ∧ ∀ x_29, x_29 = X8_shots x_22 → ((a 0 2 + x_29.1 ≤ 80 → S_X8_records i (va_up a 1 x_29.2) ∧ ∀ x_54, x_54 = X8_records i (va_up a 1 x_29.2) → S_X8_lays 532 532 (x_54.2 1) (x_54.2 0) 0 0 ∧ ∀ x_67, x_67 = X8_lays 532 532 (x_54.2 1) (x_54.2 0) 0 0 → True) ∧ (¬ a 0 2 + x_29.1 ≤ 80 → True))) := by
      intro _
      refine ⟨lq_laysS _ _, fun x hx => ?_⟩
      subst hx
      refine ⟨w1, fun x hx => ?_⟩
      subst hx
      exact ⟨fun _ => ⟨r1, fun _ _ => ⟨lq_laysS _ _, fun _ _ => trivial⟩⟩, fun _ => trivial⟩
    rcases lq_room c with ⟨y1, y2⟩ | ⟨y1, y2⟩
    · rw [y2, if_neg (show ¬ (1 : Int32) = 0 by decide), eN, if_pos (show nI (Z + lq_n L F) ≤ (80 : Int32) from nI_le (b := 80) y1 (by decide))]
      obtain ⟨p1, p2⟩ := lq_pair ct x1 y1
      refine ⟨⟨fun q => absurd q x3, hS⟩, p1.trans w2.symm, ?_⟩
      refine r4 ⟨L, F, _, p2.congr (fun k hk => ?_)⟩
      rw [lq_lays0 hk, r2 1 (by decide), lq_row]
    · rw [y2, if_pos (show (0 : Int32) = 0 from rfl), eN, if_neg (show ¬ nI (Z + lq_n L F) ≤ (80 : Int32) from nI_ge (a := 80) (by omega) (by omega))]
      exact ⟨⟨fun q => absurd q x3, hS⟩, rfl, h0.a1 _⟩
end ACTSC
