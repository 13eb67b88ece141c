set_option maxRecDepth 100000
section ACTS
variable {hs z : Int32} {Bh : Nat → Nat → Nat} {Vh : Nat → lt_SV} {i0 : Nat → Int32} {a0 : Nat → Nat → Int32} {i1 : Nat → Int32} {a1 : Nat → Nat → Int32} {i2 : Nat → Int32} {a2 : Nat → Nat → Int32} {len : Int32} {sg : Nat → Int32} {i : Nat → Int32} {a : Nat → Nat → Int32}
theorem sim_type (h : RW hs z Vh i0 a0 i2 a2 len sg i a) (p : Int32) :
    S_X8_type i a p ∧ (X7_type hs len sg p).1 = (X8_type i a p).1 ∧ RW hs z Vh i0 a0 i2 a2 (X7_type hs len sg p).2.1 (X7_type hs len sg p).2.2 (X8_type i a p).2.1 (X8_type i a p).2.2 := by
  have h0 := h
  obtain ⟨b, c, d, t, g1, g2, g3, g4⟩ := h
  unfold X7_type X8_type S_X8_type
  by_cases ct : t = 60
  · subst ct
    have e1 : ¬ len < 60 := by rw [g2]; decide
    have e2 : i 2 = 60 := g3
    rw [if_neg e1, if_pos e2]
    exact ⟨⟨fun _ => trivial, fun q => absurd e2 q⟩, rfl, h0⟩
  · have e1 : len < 60 := by rw [g2]; exact nI_lt (b := 60) (by omega) (by decide)
    have e2 : ¬ i 2 = 60 := by rw [g3]; intro q; exact ct ((nI_eq (a := t) (b := 60) (by omega) (by decide)).mp q)
    have e3 : X1_add len sg p = (nI (t + 1), upd sg t (vp_nar .char p)) := by
      unfold X1_add
      rw [g2, if_neg (nI_pos (by omega))]
      first
        | rw [if_neg (show ¬ (60 : Int32) ≤ nI t from nI_ge (b := 60) (by omega) (by decide)), nI_1, nI_clamp (by omega)]
        | rw [if_pos (show nI t < (60 : Int32) from nI_lt (b := 60) (by omega) (by decide)), nI_1, nI_clamp (by omega)]
    have e4 : (i 2).toNatClampNeg = t := by rw [g3]; exact nI_clamp (by omega)
    rw [if_pos e1, if_neg e2, e3, e4, g3, nI_1]
    refine ⟨⟨fun _ => trivial, fun _ => ⟨vp_in_nI (by omega) (by decide), trivial⟩⟩, rfl, ?_, c, ?_, t + 1, by omega, rfl, rfl, fun k hk => ?_⟩
    · obtain ⟨n, b1, b2, b3, b4⟩ := b
      exact ⟨n, b1, b2, b3, b4⟩
    · exact d
    · show upd sg t (vp_nar .char p) k = upd (a 4) t (vp_nar .char p) k
      by_cases ck : k = t
      · subst ck; rw [pk_us, pk_us]
      · rw [pk_un ck, pk_un ck]; exact g4 k (by omega)
theorem sim_clearText (h : RW hs z Vh i0 a0 i2 a2 len sg i a) :
    S_X8_clearText i a ∧ (X7_clearText hs len sg).1 = (X8_clearText i a).1 ∧ RW hs z Vh i0 a0 i2 a2 (X7_clearText hs len sg).2.1 (X7_clearText hs len sg).2.2 (X8_clearText i a).2 a := by
  obtain ⟨⟨n, b1, b2, b3, b4⟩, c, d, t, g1, g2, g3, g4⟩ := h
  exact ⟨trivial, g2.trans g3.symm, ⟨n, b1, b2, b3, b4⟩, c, d, 0, by omega, rfl, rfl, fun k hk => absurd hk (Nat.not_lt_zero k)⟩
theorem sim_undo (h : RW hs z Vh i0 a0 i2 a2 len sg i a) :
    S_X8_undo i a ∧ (X7_undo hs z Bh Vh i0 a0).1 = (X8_undo i a).1 ∧ RW hs (X7_undo hs z Bh Vh i0 a0).2.1 (X7_undo hs z Bh Vh i0 a0).2.2.2.1 (X7_undo hs z Bh Vh i0 a0).2.2.2.2.1 (X7_undo hs z Bh Vh i0 a0).2.2.2.2.2 i2 a2 len sg (X8_undo i a).2.1 (X8_undo i a).2.2 := by
  have h0 := h
  obtain ⟨⟨n, b1, b2, b3, b4⟩, c, d, t, g1, g2, g3, g4⟩ := h
  unfold X7_undo X8_undo S_X8_undo
  by_cases cn : n = 0
  · subst cn
    have e1 : z = 0 := b2
    have e2 : i 0 = 0 := b3
    rw [if_pos e1, if_pos e2]
    exact ⟨⟨fun _ => trivial, fun q => absurd e2 q⟩, rfl, h0⟩
  · have e1 : ¬ z = 0 := by rw [b2]; exact nI_ne0 (by omega) (by omega)
    have e2 : ¬ i 0 = 0 := by rw [b3]; exact nI_ne0 (by omega) (by omega)
    obtain ⟨m, rfl⟩ : ∃ m, n = m + 1 := ⟨n - 1, by omega⟩
    have e3 : z - 1 = nI m := by rw [b2]; exact nI_pred m
    have e4 : i 0 - 1 = nI m := by rw [b3]; exact nI_pred m
    have e5 : (532 : Int32) * (i 0 - 1) = nI (532 * m) := by rw [e4, show (532 : Int32) = nI 532 from rfl, pk_mul]
    obtain ⟨l1, l2⟩ := lq_lays (n := 2128) (n' := 532) (x := 532 * m) (y := 0) (f := a 2) (f' := a 0) (c1 := 532 * (i 0 - 1)) (c3 := 0) e5 rfl (by omega) (by omega) (by omega) (by omega)
    have e6 : X2_tlz z = nI m := by unfold X2_tlz; rw [if_neg e1, e3]
    have e7 : X2_tls z Vh i0 a0 = Vh m := by unfold X2_tls; rw [if_neg e1, e3, nI_clamp (by omega)]
    rw [if_neg e1, if_neg e2, e6, e7, l1]
    rw [e4]
    refine ⟨⟨fun q => absurd q e2, fun _ => ?_⟩, rfl, ⟨m, by omega, rfl, rfl, fun j hj => b4 j (by omega)⟩, ?_, d, t, g1, g2, g3, g4⟩
    · first
        | exact ⟨by rw [← e4]; exact l2, fun _ _ => trivial⟩
        | exact ⟨l2, fun _ _ => trivial⟩
    · refine (b4 m (by omega)).congr (fun k hk => ?_)
      show (if 0 ≤ k ∧ k < 0 + 532 then a 2 (532 * m + (k - 0)) else a 0 k) = _
      rw [if_pos (by omega)]; rfl
theorem sim_keep (h : RW hs z Vh i0 a0 i2 a2 len sg i a) :
    S_X8_keep i a ∧ (X7_keep hs i0 a0 i2 a2).1 = (X8_keep i a).1 ∧ RW (X7_keep hs i0 a0 i2 a2).2.1 z Vh i0 a0 (X7_keep hs i0 a0 i2 a2).2.2.1 (X7_keep hs i0 a0 i2 a2).2.2.2 len sg (X8_keep i a).2.1 (X8_keep i a).2.2 := by
  obtain ⟨⟨n, b1, b2, b3, b4⟩, c, d, t, g1, g2, g3, g4⟩ := h
  obtain ⟨l1, l2⟩ := lq_lays (n := 532) (n' := 532) (x := 0) (y := 0) (f := a 0) (f' := a 3) (c1 := 0) (c3 := 0) rfl rfl (by omega) (by omega) (by omega) (by omega)
  have e2 : i0 2 = a 0 2 := by obtain ⟨L, F, Z, c⟩ := c; exact c.i 2 (by decide)
  unfold X7_keep X8_keep S_X8_keep
  rw [l1]
  refine ⟨⟨l2, fun _ _ => trivial⟩, e2, ⟨n, b1, b2, b3, b4⟩, c, Or.inr ⟨rfl, rfl, ?_⟩, t, g1, g2, g3, g4⟩
  refine c.congr (fun k hk => ?_)
  show (if 0 ≤ k ∧ k < 0 + 532 then a 0 (0 + (k - 0)) else a 3 k) = _
  rw [if_pos (by omega)]
  congr 1; omega
theorem sim_restore (h : RW hs z Vh i0 a0 i2 a2 len sg i a) :
    S_X8_restore i a ∧ (X7_restore hs z Bh Vh i0 a0 i2 a2).1 = (X8_restore i a).1 ∧ RW hs (X7_restore hs z Bh Vh i0 a0 i2 a2).2.1 (X7_restore hs z Bh Vh i0 a0 i2 a2).2.2.2.1 (X7_restore hs z Bh Vh i0 a0 i2 a2).2.2.2.2.1 (X7_restore hs z Bh Vh i0 a0 i2 a2).2.2.2.2.2 i2 a2 len sg (X8_restore i a).2.1 (X8_restore i a).2.2 := by
  have h0 := h
  obtain ⟨b, c, d, g⟩ := h
  unfold X7_restore X8_restore S_X8_restore
  rcases d with ⟨d1, d2⟩ | ⟨d1, d2, d3⟩
  · rw [if_pos d1, if_pos d2]
    exact ⟨⟨fun _ => trivial, fun q => absurd d2 q⟩, rfl, h0⟩
  · have e1 : ¬ hs = 0 := by rw [d1]; decide
    have e2 : ¬ i 1 = 0 := by rw [d2]; decide
    obtain ⟨r1, r2, r3, r4⟩ := lq_act h0
    obtain ⟨l1, l2⟩ := lq_lays (n := 532) (n' := 532) (x := 0) (y := 0) (f := (X8_records i a).2 3) (f' := (X8_records i a).2 0) (c1 := 0) (c3 := 0) rfl rfl (by omega) (by omega) (by omega) (by omega)
    have le : ∀ k, k < 532 → X8_lays 532 532 ((X8_records i a).2 3) ((X8_records i a).2 0) 0 0 k = a 3 k := by
      intro k hk
      rw [l1]
      show (if 0 ≤ k ∧ k < 0 + 532 then (X8_records i a).2 3 (0 + (k - 0)) else (X8_records i a).2 0 k) = _
      rw [if_pos (by omega), r2 3 (by decide)]
      congr 1; omega
    have d4 := d3.congr (fun k hk => le k hk)
    rw [if_neg e1, if_neg e2]
    refine ⟨⟨fun q => absurd q e2, fun _ => ⟨r1, fun x hx => ⟨by rw [hx]; exact l2, fun _ _ => trivial⟩⟩⟩, ?_, r4 d4⟩
    show i2 2 = _
    obtain ⟨L, F, Z, q⟩ := d4
    exact q.i 2 (by decide)
theorem sim_turnBack (h : RW hs z Vh i0 a0 i2 a2 len sg i a) :
    S_X8_turnBack i a ∧ (X7_turnBack hs z Bh Vh i0 a0).1 = (X8_turnBack i a).1 ∧ RW hs (X7_turnBack hs z Bh Vh i0 a0).2.1 (X7_turnBack hs z Bh Vh i0 a0).2.2.2.1 (X7_turnBack hs z Bh Vh i0 a0).2.2.2.2.1 (X7_turnBack hs z Bh Vh i0 a0).2.2.2.2.2 i2 a2 len sg (X8_turnBack i a).2.1 (X8_turnBack i a).2.2 := by
  have h0 := h
  obtain ⟨b, ⟨L, F, Z, c⟩, d, g⟩ := h
  obtain ⟨r1, r2, r3, r4⟩ := lq_act h0
  unfold X7_turnBack X8_turnBack S_X8_turnBack
  by_cases cF : F = 0
  · subst cF
    have e1 : i0 1 = 0 := c.f
    have e2 : a 0 1 = 0 := c.1.f
    rw [if_pos e1, if_pos e2]
    exact ⟨⟨fun _ => trivial, fun q => absurd e2 q⟩, rfl, h0⟩
  · have e1 : ¬ i0 1 = 0 := by rw [c.f]; exact nI_ne0 (by omega) (by have := c.1.1; have := c.1.2.1; omega)
    have e2 : ¬ a 0 1 = 0 := by rw [c.1.f]; exact nI_ne0 (by omega) (by have := c.1.1; have := c.1.2.1; omega)
    rw [if_neg e1, if_neg e2]
    dsimp only
    rw [r2 0 (by decide)]
    refine ⟨⟨fun q => absurd q e2, fun _ => ⟨r1, fun _ _ => trivial⟩⟩, by rw [c.i 1 (by decide)], r4 ?_⟩
    obtain ⟨m, rfl⟩ : ∃ m, F = m + 1 := ⟨F - 1, by omega⟩
    have em : a 0 1 - 1 = nI m := by rw [c.1.f]; exact nI_pred m
    have ec : i0 1 - 1 = nI m := by rw [c.f]; exact nI_pred m
    rw [em, ec]
    have lo : ∀ k, k ≠ 1 → upd (a 0) 1 (nI m) k = a 0 k := fun k hk => pk_un hk
    obtain ⟨q, s, u, o, b1, b2, b3, b4, b5, b6, b7, b8, b9, b10⟩ := c.1.2.2.2.2.2.2.1
    refine ⟨L, m, Z, c.1.to (by have := c.1.2.1; omega) (lo 0 (by decide)) rfl (lo 2 (by decide)) ⟨q, u, b1, b3, b4, (lo 7 (by decide)).trans b6, (lo 8 (by decide)).trans b8⟩ (fun k hk => lo k (by omega)), fun k hk => ?_, fun k hk => ?_, fun k hk => ?_, fun k hk => ?_, fun k hk => ?_⟩
    · by_cases k1 : k = 1
      · subst k1; rfl
      · rw [pk_un k1, lo k k1]; exact c.i k hk
    · rw [lo _ (by omega)]; exact c.2.2.1 k hk
    · rw [lo _ (by omega), lo _ (by omega)]; exact c.2.2.2.1 k hk
    · rw [lo _ (by omega)]; exact c.2.2.2.2.1 k hk
    · rw [lo _ (by omega), lo _ (by omega), lo _ (by omega), lo _ (by omega)]; exact c.2.2.2.2.2 k hk
theorem lq_isRS0 {i : Nat → Int32} {a : Nat → Nat → Int32} : S_X8_isRight i a := ⟨fun _ => trivial, fun _ => trivial⟩
theorem sim_turn (h : RW hs z Vh i0 a0 i2 a2 len sg i a) :
    S_X8_turn i a ∧ (X7_turn hs z Bh Vh i0 a0).1 = (X8_turn i a).1 ∧ RW hs (X7_turn hs z Bh Vh i0 a0).2.1 (X7_turn hs z Bh Vh i0 a0).2.2.2.1 (X7_turn hs z Bh Vh i0 a0).2.2.2.2.1 (X7_turn hs z Bh Vh i0 a0).2.2.2.2.2 i2 a2 len sg (X8_turn i a).2.1 (X8_turn i a).2.2 := by
  have h0 := h
  obtain ⟨b, ⟨L, F, Z, c⟩, d, g⟩ := h
  obtain ⟨r1, r2, r3, r4⟩ := lq_act h0
  have hL := c.1.1
  have hFL := c.1.2.1
  have e0 : X6_leavesOnRight i0 a0 = nI (L - F) := lq_onR c.f c.l hFL
  unfold X7_turn X8_turn S_X8_turn
  rw [e0]
  by_cases cF : F = L
  · have e1 : nI (L - F) = 0 := by rw [cF, Nat.sub_self]; rfl
    have e2 : X8_isRight i a = 0 := by
      unfold X8_isRight
      rw [c.1.l, c.1.f]
      first
        | exact if_pos (nI_le (by omega) (by omega))
        | exact if_neg (nI_nlt (by omega) (by omega))
    rw [e2, e1]
    dsimp only
    rw [if_pos (show (0 : Int32) = 0 from rfl), if_pos (show (0 : Int32) = 0 from rfl)]
    exact ⟨⟨lq_isRS0, fun r hr => ⟨fun _ => trivial, fun q => absurd hr q⟩⟩, rfl, h0⟩
  · have e1 : ¬ nI (L - F) = 0 := nI_ne0 (by omega) (by omega)
    have e2 : X8_isRight i a = 1 := by
      unfold X8_isRight
      rw [c.1.l, c.1.f]
      first
        | exact if_neg (nI_ge (by omega) (by omega))
        | exact if_pos (nI_lt (by omega) (by omega))
    obtain ⟨s1, t, ht, s2, s3, s4⟩ := lq_turn c (by omega)
    rw [e2]
    dsimp only
    rw [if_neg e1, if_neg (show ¬ (1 : Int32) = 0 by decide), r2 0 (by decide)]
    refine ⟨?_, s2.trans s3.symm, r4 ⟨L, F + t, Z, s4⟩⟩
    refine ⟨lq_isRS0, fun r hr => ⟨fun _ => trivial, fun _ => ⟨r1, fun x hx => ⟨by rw [hx, r2 0 (by decide)]; exact s1, fun _ _ => trivial⟩⟩⟩⟩
end ACTS
