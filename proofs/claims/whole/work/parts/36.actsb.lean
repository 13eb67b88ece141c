set_option maxRecDepth 100000
section ACTSB
variable {hs z : Int32} {Bh : Nat → Nat → Nat} {Vh : Nat → lt_SV} {i0 : Nat → Int32} {a0 : Nat → Nat → Int32} {i1 : Nat → Int32} {a1 : Nat → Nat → Int32} {i2 : Nat → Int32} {a2 : Nat → Nat → Int32} {len : Int32} {sg : Nat → Int32} {i : Nat → Int32} {a : Nat → Nat → Int32}
theorem lq_suc (p : Int32) : (X7_isSuction p = 0 ∧ X8_in p 1 20 = 0) ∨ (X7_isSuction p = 1 ∧ X8_in p 1 20 = 1 ∧ ∃ u, 1 ≤ u ∧ u ≤ 20 ∧ p = nI u) := by
  rcases lq_inr (p := p) (lo := 1) (hi := 20) (by decide) (by decide) with ⟨h1, h2⟩ | ⟨h1, h2, h3, h4⟩
  · left
    refine ⟨?_, h1⟩
    unfold X7_isSuction
    by_cases c : p < 1
    · first
        | exact if_pos c
        | exact if_neg (Int32.not_le.mpr c)
    · have c2 : (20 : Int32) < p := h2.resolve_left c
      first
        | (rw [if_neg c]; first | exact if_pos c2 | exact if_neg (Int32.not_le.mpr c2))
        | (rw [if_pos (lt_nlt c)]; first | exact if_pos c2 | exact if_neg (Int32.not_le.mpr c2))
  · right
    refine ⟨?_, h1, h4⟩
    unfold X7_isSuction
    have c : ¬ p < 1 := h2
    have c2 : ¬ (20 : Int32) < p := h3
    first
      | (rw [if_neg c]; first | exact if_neg c2 | exact if_pos (lt_nlt c2))
      | (rw [if_pos (lt_nlt c)]; first | exact if_neg c2 | exact if_pos (lt_nlt c2))
theorem sim_setSuction (h : RW hs z Vh i0 a0 i2 a2 len sg i a) (p : Int32) :
    S_X8_setSuction i a p ∧ (X7_setSuction hs z Bh Vh i0 a0 p).1 = (X8_setSuction i a p).1 ∧ RW hs (X7_setSuction hs z Bh Vh i0 a0 p).2.1 (X7_setSuction hs z Bh Vh i0 a0 p).2.2.2.1 (X7_setSuction hs z Bh Vh i0 a0 p).2.2.2.2.1 (X7_setSuction hs z Bh Vh i0 a0 p).2.2.2.2.2 i2 a2 len sg (X8_setSuction i a p).2.1 (X8_setSuction i a p).2.2 := by
  have h0 := h
  obtain ⟨b, ⟨L, F, Z, c⟩, d, g⟩ := h
  obtain ⟨r1, r2, r3, r4⟩ := lq_act h0
  have sB : S_X8_becomes i a 8 p := ⟨vp_in_iff.mpr (by decide), fun v _ => ⟨fun _ => trivial, fun _ => ⟨r1, fun _ _ => ⟨vp_in_iff.mpr (by decide), trivial⟩⟩⟩⟩
  have s0 : S_X8_setSuction i a p := fun r _ => ⟨fun _ => trivial, fun _ => ⟨sB, fun _ _ => trivial⟩⟩
  refine ⟨s0, ?_⟩
  unfold X7_setSuction X8_setSuction
  rcases lq_suc p with ⟨e1, e2⟩ | ⟨e1, e2, u, u1, u2, u3⟩
  · rw [e1, e2]; exact ⟨rfl, h0⟩
  · rw [e1, e2]
    dsimp only
    rw [if_neg (show ¬ (1 : Int32) = 0 by decide), if_neg (show ¬ (1 : Int32) = 0 by decide)]
    have e8 : i0 8 = a 0 8 := c.i 8 (by decide)
    unfold X8_becomes
    rw [e8, show (8 : Int32).toNatClampNeg = 8 from rfl]
    dsimp only
    by_cases ce : a 0 8 = p
    · rw [if_pos ce, if_pos ce]; exact ⟨rfl, h0⟩
    · rw [if_neg ce, if_neg ce, r2 0 (by decide)]
      refine ⟨rfl, r4 ⟨L, F, Z, ?_⟩⟩
      have lo : ∀ k, k ≠ 8 → upd (a 0) 8 p k = a 0 k := fun k hk => pk_un hk
      obtain ⟨q, s, u', o, b1, b2, b3, b4, b5, b6, b7, b8, b9, b10⟩ := c.1.2.2.2.2.2.2.1
      refine ⟨c.1.to c.1.2.1 (lo 0 (by decide)) ((lo 1 (by decide)).trans c.1.f) (lo 2 (by decide)) ⟨q, u, b1, u1, u2, (lo 7 (by decide)).trans b6, pk_us.trans u3⟩ (fun k hk => lo k (by omega)), fun k hk => ?_, fun k hk => ?_, fun k hk => ?_, fun k hk => ?_, fun k hk => ?_⟩
      · by_cases k8 : k = 8
        · subst k8; show upd i0 8 p 8 = upd (a 0) 8 p 8; rw [pk_us, pk_us]
        · show upd i0 8 p k = upd (a 0) 8 p k; rw [pk_un k8, lo k k8]; exact c.i k hk
      · rw [lo _ (by omega)]; exact c.2.2.1 k hk
      · rw [lo _ (by omega), lo _ (by omega)]; exact c.2.2.2.1 k hk
      · rw [lo _ (by omega)]; exact c.2.2.2.2.1 k hk
      · rw [lo _ (by omega), lo _ (by omega), lo _ (by omega), lo _ (by omega)]; exact c.2.2.2.2.2 k hk
/-- a setting changed, on both sides -/
theorem lq_setRS {L F Z w v : Nat} {f : Nat → Int32} (c : RS L F Z i0 a0 f) (hw : w < 3) (hv : v ≤ (if w = 0 then 10 else if w = 1 then 1 else 99)) : RS L F Z i0 (va_up a0 7 (upd (a0 7) w (nI v))) (upd f (9 + w) (nI v)) := by
  have lo : ∀ k, k ≠ 9 + w → upd f (9 + w) (nI v) k = f k := fun k hk => pk_un hk
  obtain ⟨⟨a1, a2, a3, a4, a5, a6, ⟨q, s, u, o, b1, b2, b3, b4, b5, b6, b7, b8, b9, b10⟩, a8⟩, c1, c2, c3, c4, c5⟩ := c
  refine ⟨⟨a1, a2, a3, (lo 0 (by omega)).trans a4, (lo 1 (by omega)).trans a5, (lo 2 (by omega)).trans a6, ⟨q, if w = 0 then v else s, u, if w = 2 then v else o, b1, ?_, b3, b4, ?_, (lo 7 (by omega)).trans b6, ?_, (lo 8 (by omega)).trans b8, ?_, ?_⟩, fun k hk => ?_⟩, fun k hk => ?_, fun k hk => ?_, fun k hk => ?_, fun k hk => ?_, fun k hk => ?_⟩
  · split
    · next e => rw [if_pos e] at hv; exact hv
    · exact b2
  · split
    · next e => rw [if_neg (by omega), if_neg (by omega)] at hv; exact hv
    · exact b5
  · split
    · next e => subst e; exact pk_us
    · exact (lo 9 (by omega)).trans b7
  · split
    · next e => subst e; exact pk_us
    · exact (lo 11 (by omega)).trans b9
  · by_cases e : w = 1
    · subst e
      have hv1 : v ≤ 1 := hv
      rcases (show v = 0 ∨ v = 1 by omega) with rfl | rfl
      · left; exact pk_us
      · right; exact pk_us
    · rw [lo 10 (by omega)]; exact b10
  · rw [lo (134 + 5 * k) (by omega), lo (132 + 5 * k) (by omega), lo (136 + 5 * k) (by omega)]; exact a8 k hk
  · rw [lo k (by omega)]; exact c1 k hk
  · show va_up a0 7 (upd (a0 7) w (nI v)) 7 k = _
    rw [lq_row]
    by_cases e : k = w
    · subst e; rw [pk_us, pk_us]
    · rw [pk_un e, lo (9 + k) (by omega)]; exact c2 k hk
  · rw [lo _ (by omega), lo _ (by omega)]; exact c3 k hk
  · rw [lo _ (by omega)]; exact c4 k hk
  · rw [lo _ (by omega), lo _ (by omega), lo _ (by omega), lo _ (by omega)]; exact c5 k hk
theorem sim_set (h : RW hs z Vh i0 a0 i2 a2 len sg i a) (p0 p1 : Int32) :
    S_X8_set i a p0 p1 ∧ (X7_set hs z Bh Vh i0 a0 p0 p1).1 = (X8_set i a p0 p1).1 ∧ RW hs (X7_set hs z Bh Vh i0 a0 p0 p1).2.1 (X7_set hs z Bh Vh i0 a0 p0 p1).2.2.2.1 (X7_set hs z Bh Vh i0 a0 p0 p1).2.2.2.2.1 (X7_set hs z Bh Vh i0 a0 p0 p1).2.2.2.2.2 i2 a2 len sg (X8_set i a p0 p1).2.1 (X8_set i a p0 p1).2.2 := by
  have h0 := h
  obtain ⟨b, ⟨L, F, Z, c⟩, d, g⟩ := h
  obtain ⟨r1, r2, r3, r4⟩ := lq_act h0
  have sB : ∀ w : Nat, w < 3 → ∀ v, S_X8_becomes i a (9 + nI w) v := fun w hw v => by
    have q : vp_in (9 + nI w) 532 := lq_v (m := 9) rfl (by omega) (by decide)
    exact ⟨q, fun _ _ => ⟨fun _ => trivial, fun _ => ⟨r1, fun _ _ => ⟨q, trivial⟩⟩⟩⟩
  have most : ∀ w : Nat, w < 3 → lt_most (nI w).toNatClampNeg = nI (if w = 0 then 10 else if w = 1 then 1 else 99) := by
    intro w hw
    rw [nI_clamp (by omega)]
    rcases (show w = 0 ∨ w = 1 ∨ w = 2 by omega) with rfl | rfl | rfl <;> rfl
  have main : ∀ w : Nat, w < 3 → p0 = nI w → ∀ M : Nat, M = (if w = 0 then 10 else if w = 1 then 1 else 99) →
      (X8_in p1 0 (nI M) = 0 ∧ (p1 < 0 ∨ ¬ p1 ≤ lt_most p0.toNatClampNeg)) ∨ (X8_in p1 0 (nI M) = 1 ∧ ¬ p1 < 0 ∧ p1 ≤ lt_most p0.toNatClampNeg ∧ ∃ v, v ≤ M ∧ p1 = nI v) := by
    intro w hw hp M hM
    have hM2 : M ≤ 99 := by
      subst hM
      split
      · omega
      · split <;> omega
    rw [hp, most w hw, ← hM]
    rcases lq_inr (p := p1) (lo := 0) (hi := M) (by omega) (by omega) with ⟨e1, e2⟩ | ⟨e1, e2, e3, v, _, e4, e5⟩
    · left
      refine ⟨e1, e2.imp (fun q => q) (fun q => Int32.not_le.mpr q)⟩
    · right
      exact ⟨e1, e2, lt_nlt e3, v, e4, e5⟩
  have bec : ∀ w : Nat, w < 3 → p0 = nI w → ∀ v : Nat, v ≤ (if w = 0 then 10 else if w = 1 then 1 else 99) → p1 = nI v →
      (let r := (if X3_at 3 (a0 7) p0 = p1 then (((-5) : Int32), (z, Bh, Vh, i0, a0)) else (X3_at 3 (a0 7) p0, ((X2_recz z), (X2_recB z Bh), (X2_recV z Vh i0 a0), i0, (va_up a0 7 (X3_put 3 (a0 7) p0 p1)))))
       r.1 = (X8_becomes i a (9 + p0) p1).1 ∧ RW hs r.2.1 r.2.2.2.1 r.2.2.2.2.1 r.2.2.2.2.2 i2 a2 len sg (X8_becomes i a (9 + p0) p1).2.1 (X8_becomes i a (9 + p0) p1).2.2) := by
    intro w hw hp v hv hp1
    have x1 : X3_at 3 (a0 7) p0 = a 0 (9 + w) := by rw [hp, lq_at hw (by decide)]; exact c.2.2.1 w hw
    have x2 : X3_put 3 (a0 7) p0 p1 = upd (a0 7) w p1 := by rw [hp, lq_put hw (by decide)]
    have x3 : (9 + p0).toNatClampNeg = 9 + w := by rw [hp]; exact lq_c (m := 9) rfl (by omega)
    unfold X8_becomes
    rw [x1, x2, x3]
    dsimp only
    by_cases ce : a 0 (9 + w) = p1
    · rw [if_pos ce, if_pos ce]; exact ⟨rfl, h0⟩
    · rw [if_neg ce, if_neg ce, r2 0 (by decide)]
      refine ⟨rfl, r4 ⟨L, F, Z, ?_⟩⟩
      rw [hp1]
      exact lq_setRS c hw hv
  unfold X7_set X8_set S_X8_set
  rcases pk_ix p0 (n := 3) (by decide) with q | q | ⟨w, hw, hp⟩
  · have e1 : X8_in p0 0 2 = 0 := lq_in0 (N := 3) (by decide) (Or.inl q)
    rw [e1, if_pos q]
    refine ⟨fun r hr => ⟨fun _ => trivial, fun e => absurd hr e⟩, rfl, h0⟩
  · have e1 : X8_in p0 0 2 = 0 := lq_in0 (N := 3) (by decide) (Or.inr q)
    have q2 : ¬ p0 < 3 := Int32.not_lt.mpr q
    rw [e1]
    by_cases q3 : p0 < 0
    · rw [if_pos q3]
      exact ⟨fun r hr => ⟨fun _ => trivial, fun e => absurd hr e⟩, rfl, h0⟩
    · rw [if_neg q3, if_neg q2]
      exact ⟨fun r hr => ⟨fun _ => trivial, fun e => absurd hr e⟩, rfl, h0⟩
  · have e1 : X8_in p0 0 2 = 1 := by rw [hp]; exact lq_in1 (N := 3) (by decide) hw
    have q1 : ¬ p0 < 0 := by rw [hp]; exact nI_pos (by omega)
    have q2 : p0 < 3 := by rw [hp]; exact nI_lt (b := 3) hw (by decide)
    have S0 : ∀ v, S_X8_becomes i a (9 + p0) v := fun v => by rw [hp]; exact sB w hw v
    rw [e1, if_neg q1, if_pos q2]
    refine ⟨fun r _ => ⟨fun _ => trivial, fun _ => ⟨fun _ => fun _ _ => ⟨fun _ => trivial, fun _ => ⟨S0 _, fun _ _ => trivial⟩⟩, fun _ => ⟨fun _ => fun _ _ => ⟨fun _ => trivial, fun _ => ⟨S0 _, fun _ _ => trivial⟩⟩, fun _ => fun _ _ => ⟨fun _ => trivial, fun _ => ⟨S0 _, fun _ _ => trivial⟩⟩⟩⟩⟩, ?_⟩
    dsimp only
    rw [if_neg (show ¬ (1 : Int32) = 0 by decide)]
    have fin : ∀ M : Nat, M = (if w = 0 then 10 else if w = 1 then 1 else 99) → ∀ R8 : Int32 × ((Nat → Int32) × (Nat → Nat → Int32)), R8 = (if X8_in p1 0 (nI M) = 0 then (((-2) : Int32), (i, a)) else ((X8_becomes i a (9 + p0) p1).1, ((X8_becomes i a (9 + p0) p1).2.1, (X8_becomes i a (9 + p0) p1).2.2))) →
        (let r := (if p1 < 0 then (((-2) : Int32), (z, Bh, Vh, i0, a0)) else if p1 ≤ lt_most p0.toNatClampNeg then (if X3_at 3 (a0 7) p0 = p1 then (((-5) : Int32), (z, Bh, Vh, i0, a0)) else (X3_at 3 (a0 7) p0, ((X2_recz z), (X2_recB z Bh), (X2_recV z Vh i0 a0), i0, (va_up a0 7 (X3_put 3 (a0 7) p0 p1))))) else (((-2) : Int32), (z, Bh, Vh, i0, a0)))
         r.1 = R8.1 ∧ RW hs r.2.1 r.2.2.2.1 r.2.2.2.2.1 r.2.2.2.2.2 i2 a2 len sg R8.2.1 R8.2.2) := by
      intro M hM R8 hR8
      subst hR8
      dsimp only
      rcases main w hw hp M hM with ⟨x1, x2⟩ | ⟨x1, x2, x3, v, x4, x5⟩
      · rw [x1]
        rw [if_pos (show (0 : Int32) = 0 from rfl)]
        by_cases y : p1 < 0
        · rw [if_pos y]; exact ⟨rfl, h0⟩
        · rw [if_neg y, if_neg (x2.resolve_left y)]; exact ⟨rfl, h0⟩
      · rw [x1, if_neg (show ¬ (1 : Int32) = 0 by decide), if_neg x2, if_pos x3]
        exact bec w hw hp v (by rw [← hM]; exact x4) x5
    rcases (show w = 0 ∨ w = 1 ∨ w = 2 by omega) with rfl | rfl | rfl
    · have p00 : p0 = 0 := hp
      rw [if_pos p00]
      exact fin 10 rfl _ rfl
    · have p00 : ¬ p0 = 0 := by rw [hp]; decide
      have p01 : p0 = 1 := hp
      rw [if_neg p00, if_pos p01]
      exact fin 1 rfl _ rfl
    · have p00 : ¬ p0 = 0 := by rw [hp]; decide
      have p01 : ¬ p0 = 1 := by rw [hp]; decide
      rw [if_neg p00, if_neg p01]
      exact fin 99 rfl _ rfl
theorem lq_printRS {L F Z k : Nat} {f : Nat → Int32} {v : Int32} (c : RS L F Z i0 a0 f) (hk : k < 2 * L) : RS L F Z i0 (va_up a0 2 (upd (a0 2) k v)) (upd f (72 + k) v) := by
  have hL := c.1.1
  have lo : ∀ j, j ≠ 72 + k → upd f (72 + k) v j = f j := fun j hj => pk_un hj
  obtain ⟨⟨a1, a2, a3, a4, a5, a6, ⟨q, s, u, o, b1, b2, b3, b4, b5, b6, b7, b8, b9, b10⟩, a8⟩, c1, c2, c3, c4, c5⟩ := c
  refine ⟨⟨a1, a2, a3, (lo 0 (by omega)).trans a4, (lo 1 (by omega)).trans a5, (lo 2 (by omega)).trans a6, ⟨q, s, u, o, b1, b2, b3, b4, b5, (lo 7 (by omega)).trans b6, (lo 9 (by omega)).trans b7, (lo 8 (by omega)).trans b8, (lo 11 (by omega)).trans b9, ?_⟩, fun j hj => ?_⟩, fun j hj => ?_, fun j hj => ?_, fun j hj => ?_, fun j hj => ?_, fun j hj => ?_⟩
  · rw [lo 10 (by omega)]; exact b10
  · rw [lo (134 + 5 * j) (by omega), lo (132 + 5 * j) (by omega), lo (136 + 5 * j) (by omega)]; exact a8 j hj
  · rw [lo j (by omega)]; exact c1 j hj
  · rw [lo _ (by omega)]; exact c2 j hj
  · rw [lo _ (by omega), lo _ (by omega)]; exact c3 j hj
  · show va_up a0 2 (upd (a0 2) k v) 2 j = _
    rw [lq_row]
    by_cases e : j = k
    · subst e; rw [pk_us, pk_us]
    · rw [pk_un e, lo _ (by omega)]; exact c4 j hj
  · rw [lo _ (by omega), lo _ (by omega), lo _ (by omega), lo _ (by omega)]; exact c5 j hj
theorem lq_in0199 (p : Int32) : (X8_in p 0 199 = 0 ∧ (p < 0 ∨ ¬ p ≤ 199)) ∨ (X8_in p 0 199 = 1 ∧ ¬ p < 0 ∧ p ≤ 199) := by
  rcases lq_inr (p := p) (lo := 0) (hi := 199) (by decide) (by decide) with ⟨h1, h2⟩ | ⟨h1, h2, h3, h4⟩
  · left; exact ⟨h1, h2.imp (fun q => q) (fun q => Int32.not_le.mpr q)⟩
  · right; exact ⟨h1, h2, lt_nlt h3⟩
theorem sim_print (h : RW hs z Vh i0 a0 i2 a2 len sg i a) (p0 p1 : Int32) :
    S_X8_print i a p0 p1 ∧ (X7_print hs z Bh Vh i0 a0 p0 p1).1 = (X8_print i a p0 p1).1 ∧ RW hs (X7_print hs z Bh Vh i0 a0 p0 p1).2.1 (X7_print hs z Bh Vh i0 a0 p0 p1).2.2.2.1 (X7_print hs z Bh Vh i0 a0 p0 p1).2.2.2.2.1 (X7_print hs z Bh Vh i0 a0 p0 p1).2.2.2.2.2 i2 a2 len sg (X8_print i a p0 p1).2.1 (X8_print i a p0 p1).2.2 := by
  have h0 := h
  obtain ⟨b, ⟨L, F, Z, c⟩, d, g⟩ := h
  obtain ⟨r1, r2, r3, r4⟩ := lq_act h0
  have hL := c.1.1
  have sP : S_X8_isPage i a p0 := fun _ _ => trivial
  rcases lq_isPage (i := i) c p0 with ⟨e1, e2⟩ | ⟨e1, e2, k, hk, hp⟩
  · unfold X7_print X8_print S_X8_print
    rw [e1, e2]
    exact ⟨⟨sP, fun r hr => ⟨fun _ => trivial, fun q => absurd hr q⟩⟩, rfl, h0⟩
  · have v72 : vp_in (72 + p0) 532 := by rw [hp]; exact lq_v (m := 72) rfl (by omega) (by decide)
    have x1 : X3_at 60 (a0 2) p0 = a 0 (72 + k) := by rw [hp, lq_at (by omega) (by decide)]; exact c.2.2.2.2.1 k hk
    have x2 : X3_put 60 (a0 2) p0 p1 = upd (a0 2) k p1 := by rw [hp, lq_put (by omega) (by decide)]
    have x3 : (72 + p0).toNatClampNeg = 72 + k := by rw [hp]; exact lq_c (m := 72) rfl (by omega)
    have s0 : S_X8_print i a p0 p1 := by
      unfold S_X8_print
      refine ⟨sP, fun r _ => ⟨fun _ => trivial, fun _ => ⟨fun _ => ⟨v72, fun v _ => ⟨fun _ => trivial, fun _ => ⟨r1, fun x _ => ⟨v72, fun _ => trivial, fun _ => trivial⟩⟩⟩⟩, fun _ => fun rr _ => ⟨fun _ => trivial, fun _ => ⟨v72, fun v _ => ⟨fun _ => trivial, fun _ => ⟨r1, fun x _ => ⟨v72, fun _ => trivial, fun _ => trivial⟩⟩⟩⟩⟩⟩⟩⟩
    refine ⟨s0, ?_⟩
    unfold X7_print X8_print
    rw [e1, e2, x1, x2, x3]
    dsimp only
    rw [if_neg (show ¬ (1 : Int32) = 0 by decide), if_neg (show ¬ (1 : Int32) = 0 by decide), r2 0 (by decide)]
    have key := r4 ⟨L, F, Z, lq_printRS (v := p1) c hk⟩
    by_cases c5 : p1 = (-5)
    · rw [if_pos c5, if_pos c5]
      by_cases ce : a 0 (72 + k) = p1
      · rw [if_pos ce, if_pos ce]; exact ⟨rfl, h0⟩
      · rw [if_neg ce, if_neg ce]
        by_cases cf : a 0 (72 + k) = (-5)
        · rw [if_pos cf, if_pos cf]; exact ⟨rfl, key⟩
        · rw [if_neg cf, if_neg cf]; exact ⟨rfl, key⟩
    · rw [if_neg c5, if_neg c5]
      rcases lq_in0199 p1 with ⟨y1, y2⟩ | ⟨y1, y2, y3⟩
      · rw [y1, if_pos (show (0 : Int32) = 0 from rfl)]
        by_cases w : p1 < 0
        · rw [if_pos w]; exact ⟨rfl, h0⟩
        · rw [if_neg w, if_neg (y2.resolve_left w)]; exact ⟨rfl, h0⟩
      · rw [y1, if_neg (show ¬ (1 : Int32) = 0 by decide), if_neg y2, if_pos y3]
        by_cases ce : a 0 (72 + k) = p1
        · rw [if_pos ce, if_pos ce]; exact ⟨rfl, h0⟩
        · rw [if_neg ce, if_neg ce]
          by_cases cf : a 0 (72 + k) = (-5)
          · rw [if_pos cf, if_pos cf]; exact ⟨rfl, key⟩
          · rw [if_neg cf, if_neg cf]; exact ⟨rfl, key⟩
end ACTSB
