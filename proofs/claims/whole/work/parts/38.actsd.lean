set_option maxRecDepth 100000
section ACTSD
variable {hs z : Int32} {Bh : Nat → Nat → Nat} {Vh : Nat → lt_SV} {i0 : Nat → Int32} {a0 : Nat → Nat → Int32} {i1 : Nat → Int32} {a1 : Nat → Nat → Int32} {i2 : Nat → Int32} {a2 : Nat → Nat → Int32} {len : Int32} {sg : Nat → Int32} {i : Nat → Int32} {a : Nat → Nat → Int32}
/-! ===== throwing a picture away ===== -/
theorem lq_tA74 {p0 : Int32} {m : Nat} (hm : m ≤ 79) : ∀ (fu v : Nat) (j0 : Nat → Int32) (b : Nat → Nat → Int32), v ≤ 5 → 5 - v < fu → b 0 2 = nI m →
    S_X8_throwAway_L74 i a p0 fu (nI v) j0 b ∧ ∃ b', X8_throwAway_L74 i a p0 fu (nI v) j0 b = (nI m, (j0, b')) ∧ (∀ j, j ≠ 0 → b' j = b j) ∧ ∀ k, b' 0 k = if 132 + 5 * m + v ≤ k ∧ k < 132 + 5 * m + 5 then 0 else b 0 k := by
  intro fu
  induction fu with
  | zero => intro v _ _ _ h; omega
  | succ fu ih =>
    intro v j0 b hv hfu h2
    by_cases c : v = 5
    · subst c
      have g1 : (5 : Int32) ≤ nI 5 := by decide
      refine ⟨⟨fun _ => trivial, fun q => absurd g1 q⟩, b, (if_pos g1).trans (by rw [h2]), fun _ _ => rfl, fun k => ?_⟩
      rw [if_neg (by omega)]
    · have g1 : ¬ (5 : Int32) ≤ nI v := nI_ge (b := 5) (by omega) (by decide)
      have e0 : (132 + 5 * b 0 2) + nI v = nI (132 + 5 * m + v) := by rw [h2, show (5 : Int32) = nI 5 from rfl, pk_mul, show (132 : Int32) = nI 132 from rfl, nI_add, nI_add]
      have e1 : ((132 + 5 * b 0 2) + nI v).toNatClampNeg = 132 + 5 * m + v := by rw [e0]; exact nI_clamp (by omega)
      have v1 : vp_in ((132 + 5 * b 0 2) + nI v) 532 := by rw [e0]; exact vp_in_nI (by omega) (by decide)
      obtain ⟨s1, b', r1, r2, r3⟩ := ih (v + 1) j0 (va_up b 0 (upd (b 0) (132 + 5 * m + v) 0)) (by omega) (by omega) (by rw [lq_row, pk_un (by omega)]; exact h2)
      refine ⟨⟨fun q => absurd q g1, fun _ => ⟨v1, by rw [e1, nI_1]; exact s1, trivial⟩⟩, b', (if_neg g1).trans (by rw [e1, nI_1]; exact r1), fun j hj => (r2 j hj).trans (lq_rown hj), fun k => ?_⟩
      rw [r3, lq_row]
      by_cases ck : k = 132 + 5 * m + v
      · subst ck; rw [if_neg (by omega), if_pos (by omega), pk_us]
      · rw [pk_un ck]
        by_cases c2 : 132 + 5 * m + (v + 1) ≤ k ∧ k < 132 + 5 * m + 5
        · rw [if_pos c2, if_pos (by omega)]
        · rw [if_neg c2, if_neg (by omega)]
theorem lq_tA32 {p0 : Int32} {p m : Nat} {f : Nat → Int32} (hm : m ≤ 79) (hp : p ≤ m) (hf : f 2 = nI m) : ∀ (fu v : Nat) (j0 : Nat → Int32) (b : Nat → Nat → Int32), 5 * p ≤ v → v ≤ 5 * m → 532 - (132 + v) < fu → (∀ k, b 0 k = if 132 + 5 * p ≤ k ∧ k < 132 + v then f (k + 5) else f k) →
    S_X8_throwAway_L32 i a p0 fu (nI v) j0 b ∧ ∃ b', X8_throwAway_L32 i a p0 fu (nI v) j0 b = (nI m, (j0, b')) ∧ (∀ j, j ≠ 0 → b' j = b j) ∧ ∀ k, b' 0 k = if 132 + 5 * p ≤ k ∧ k < 132 + 5 * m then f (k + 5) else if 132 + 5 * m ≤ k ∧ k < 132 + 5 * m + 5 then 0 else f k := by
  intro fu
  induction fu with
  | zero => intro v _ _ _ _ h; omega
  | succ fu ih =>
    intro v j0 b hv1 hv hfu hb
    have h2 : b 0 2 = nI m := by rw [hb, if_neg (by omega)]; exact hf
    have e5 : 5 * b 0 2 = nI (5 * m) := by rw [h2, show (5 : Int32) = nI 5 from rfl, pk_mul]
    by_cases c : v = 5 * m
    · subst c
      have g1 : 5 * b 0 2 ≤ nI (5 * m) := by rw [e5]; exact nI_le (Nat.le_refl _) (by omega)
      obtain ⟨s1, b', r1, r2, r3⟩ := lq_tA74 (i := i) (a := a) (p0 := p0) hm (((5 : Int32).toInt - (0 : Int32).toInt).toNat + 1) 0 j0 b (by omega) (by decide) h2
      refine ⟨⟨fun _ => ⟨s1, trivial⟩, fun q => absurd g1 q⟩, b', (if_pos g1).trans r1, r2, fun k => ?_⟩
      rw [r3, hb]
      by_cases c1 : 132 + 5 * p ≤ k ∧ k < 132 + 5 * m
      · rw [if_neg (by omega), if_pos c1, if_pos c1]
      · rw [if_neg c1, if_neg c1, Nat.add_zero]
    · have g1 : ¬ 5 * b 0 2 ≤ nI v := by rw [e5]; exact nI_ge (by omega) (by omega)
      have e1 : (132 + nI v : Int32) = nI (132 + v) := by rw [show (132 : Int32) = nI 132 from rfl, nI_add]
      have e2 : ((132 + nI v) + 5 : Int32) = nI (132 + v + 5) := by rw [e1, show (5 : Int32) = nI 5 from rfl, nI_add]
      have x1 : (132 + nI v : Int32).toNatClampNeg = 132 + v := by rw [e1]; exact nI_clamp (by omega)
      have x2 : ((132 + nI v) + 5 : Int32).toNatClampNeg = 132 + v + 5 := by rw [e2]; exact nI_clamp (by omega)
      have v1 : vp_in (132 + nI v) 532 := by rw [e1]; exact vp_in_nI (by omega) (by decide)
      have v2 : vp_in ((132 + nI v) + 5) 532 := by rw [e2]; exact vp_in_nI (by omega) (by decide)
      obtain ⟨s1, b', r1, r2, r3⟩ := ih (v + 1) j0 (va_up b 0 (upd (b 0) (132 + v) (b 0 (132 + v + 5)))) (by omega) (by omega) (by omega) (fun k => by
        rw [lq_row]
        by_cases ck : k = 132 + v
        · subst ck
          rw [pk_us, hb, if_neg (by omega), if_pos (by omega)]
        · rw [pk_un ck, hb]
          by_cases c2 : 132 + 5 * p ≤ k ∧ k < 132 + v
          · rw [if_pos c2, if_pos (by omega)]
          · rw [if_neg c2, if_neg (by omega)])
      refine ⟨⟨fun q => absurd q g1, fun _ => ⟨v2, v1, by rw [x1, x2, nI_1]; exact s1, trivial⟩⟩, b', (if_neg g1).trans (by rw [x1, x2, nI_1]; exact r1), fun j hj => (r2 j hj).trans (lq_rown hj), r3⟩
theorem lq_remove {k : Nat} {f : Nat → Int32} (hk : k < 80) (j : Nat) : X3_removeAt 80 f (nI k) j = if k ≤ j ∧ j < 79 then f (j + 1) else f j := by
  obtain ⟨e1, e2, e3, e4, e5, e6⟩ := lt_rm (n := 80) (i := nI k) (by decide) (vp_in_nI hk (by decide))
  have ec : (nI k).toNatClampNeg = k := nI_clamp (by omega)
  unfold X3_removeAt
  rw [lq_has hk (by decide)]
  rw [if_neg (show ¬ (1 : Int32) = 0 by decide), e4, e5, ec]
  unfold va_cpy
  by_cases c : k ≤ j ∧ j < 79
  · rw [if_pos (by omega), if_pos c]
    congr 1; omega
  · rw [if_neg (by omega), if_neg c]
theorem sim_throwAway (h : RW hs z Vh i0 a0 i2 a2 len sg i a) (p0 : Int32) :
    S_X8_throwAway i a p0 ∧ (X7_throwAway hs z Bh Vh i0 a0 p0).1 = (X8_throwAway i a p0).1 ∧ RW hs (X7_throwAway hs z Bh Vh i0 a0 p0).2.1 (X7_throwAway hs z Bh Vh i0 a0 p0).2.2.2.1 (X7_throwAway hs z Bh Vh i0 a0 p0).2.2.2.2.1 (X7_throwAway hs z Bh Vh i0 a0 p0).2.2.2.2.2 i2 a2 len sg (X8_throwAway i a p0).2.1 (X8_throwAway i a p0).2.2 := by
  have h0 := h
  obtain ⟨b, ⟨L, F, Z, c⟩, d, g⟩ := h
  obtain ⟨r1, r2, r3, r4⟩ := lq_act h0
  have hL := c.1.1
  have hZ := c.1.2.2.1
  have sP : S_X8_isPicture i a p0 := fun _ _ => trivial
  unfold X7_throwAway X8_throwAway S_X8_throwAway
  rcases lq_isPic (i := i) c p0 with ⟨e1, e2⟩ | ⟨e1, e2, k, hk, hp⟩
  · rw [e1, e2]
    exact ⟨⟨sP, fun r hr => ⟨fun _ => trivial, fun q => absurd hr q⟩⟩, rfl, h0⟩
  · obtain ⟨m, rfl⟩ : ∃ m, Z = m + 1 := ⟨Z - 1, by omega⟩
    have e5 : 5 * p0 = nI (5 * k) := by rw [hp, show (5 : Int32) = nI 5 from rfl, pk_mul]
    have em : a 0 2 - 1 = nI m := by rw [c.1.z]; exact nI_pred m
    have efu : 532 - (132 + 5 * k) < ((532 : Int32).toInt - (132 + (5 * p0) : Int32).toInt).toNat + 1 := by
      have q1 : (132 + 5 * p0 : Int32).toInt = ((132 + 5 * k : Nat) : Int) := by rw [e5, show (132 : Int32) = nI 132 from rfl, nI_add]; exact nI_toInt (by omega)
      have q2 : (532 : Int32).toInt = 532 := by decide
      rw [q1, q2]; omega
    obtain ⟨s1, b', t1, t2, t3⟩ := lq_tA32 (i := i) (a := a) (p0 := p0) (p := k) (m := m) (f := upd (a 0) 2 (nI m)) (by omega) (by omega) pk_us (((532 : Int32).toInt - (132 + (5 * p0) : Int32).toInt).toNat + 1) (5 * k) (X8_records i a).1 (va_up (X8_records i a).2 0 (upd (a 0) 2 (nI m))) (Nat.le_refl _) (by omega) efu (fun j => by rw [lq_row, if_neg (by omega)])
    rw [e1, e2]
    dsimp only
    rw [if_neg (show ¬ (1 : Int32) = 0 by decide), if_neg (show ¬ (1 : Int32) = 0 by decide), r2 0 (by decide), em]
    rw [e5] at t1 s1 ⊢
    rw [t1]
    have rm : X5_removeAt (i0 2) (a0 3) (a0 4) (a0 5) (a0 6) p0 = (nI m, X3_removeAt 80 (a0 3) p0, X3_removeAt 80 (a0 4) p0, X3_removeAt 80 (a0 5) p0, X3_removeAt 80 (a0 6) p0) := by
      unfold X5_removeAt
      rw [e1]
      refine (if_neg (show ¬ (1 : Int32) = 0 by decide)).trans ?_
      rw [c.z, nI_pred]
    rw [rm]
    refine ⟨⟨sP, fun r _ => ⟨fun _ => trivial, fun _ => ⟨r1, fun x hx => ⟨?_, trivial⟩⟩⟩⟩, rfl, ?_⟩
    · subst hx
      rw [r2 0 (by decide), em]; exact s1
    · have b0 : ∀ j, b' 0 j = if 132 + 5 * k ≤ j ∧ j < 132 + 5 * m then a 0 (j + 5) else if 132 + 5 * m ≤ j ∧ j < 132 + 5 * m + 5 then 0 else upd (a 0) 2 (nI m) j := by
        intro j
        rw [t3]
        by_cases q : 132 + 5 * k ≤ j ∧ j < 132 + 5 * m
        · rw [if_pos q, if_pos q, pk_un (by omega)]
        · rw [if_neg q, if_neg q]
      have lo : ∀ j, j < 132 → j ≠ 2 → b' 0 j = a 0 j := by
        intro j hj h2
        rw [b0, if_neg (by omega), if_neg (by omega), pk_un h2]
      have rs : RS L F m (upd i0 2 (nI m)) (va_up (va_up (va_up (va_up a0 3 (X3_removeAt 80 (a0 3) p0)) 4 (X3_removeAt 80 (a0 4) p0)) 5 (X3_removeAt 80 (a0 5) p0)) 6 (X3_removeAt 80 (a0 6) p0)) (b' 0) := by
        obtain ⟨⟨a1', a2', a3', a4', a5', a6', ⟨q, s, u, o, b1, b2, b3, b4, b5, b6, b7, b8, b9, b10⟩, a8'⟩, c1, c2, c3, c4, c5⟩ := c
        have sh : ∀ j jj, j < m → jj < 5 → b' 0 (132 + jj + 5 * j) = if k ≤ j then a 0 (132 + jj + 5 * (j + 1)) else a 0 (132 + jj + 5 * j) := by
          intro j jj hj hjj
          rw [b0]
          by_cases q : k ≤ j
          · rw [if_pos (by omega), if_pos q]; congr 1
          · rw [if_neg (by omega), if_neg (by omega), pk_un (by omega), if_neg q]
        refine ⟨⟨a1', a2', by omega, (lo 0 (by omega) (by omega)).trans a4', (lo 1 (by omega) (by omega)).trans a5', ?_, ⟨q, s, u, o, b1, b2, b3, b4, b5, (lo 7 (by omega) (by omega)).trans b6, (lo 9 (by omega) (by omega)).trans b7, (lo 8 (by omega) (by omega)).trans b8, (lo 11 (by omega) (by omega)).trans b9, ?_⟩, fun j hj => ?_⟩, fun j hj => ?_, fun j hj => ?_, fun j hj => ?_, fun j hj => ?_, fun j hj => ?_⟩
        · rw [b0, if_neg (by omega), if_neg (by omega)]; exact pk_us
        · rw [lo 10 (by omega) (by omega)]; exact b10
        · have w2 := sh j 2 hj (by omega)
          have w0 := sh j 0 hj (by omega)
          have w4 := sh j 4 hj (by omega)
          show (b' 0 (132 + 2 + 5 * j) = 0 ∨ b' 0 (132 + 2 + 5 * j) = 1) ∧ ∃ g : Nat, g < 60 ∧ b' 0 (132 + 0 + 5 * j) = nI g ∧ b' 0 (132 + 4 + 5 * j) = nI (1 - g % 2)
          rw [w2, w0, w4]
          by_cases q : k ≤ j
          · rw [if_pos q, if_pos q, if_pos q]; exact a8' (j + 1) (by omega)
          · rw [if_neg q, if_neg q, if_neg q]; exact a8' j (by omega)
        · by_cases j2 : j = 2
          · subst j2
            rw [pk_us, b0, if_neg (by omega), if_neg (by omega), pk_us]
          · rw [pk_un j2, lo j (by omega) j2]; exact c1 j hj
        · rw [lo (9 + j) (by omega) (by omega)]; exact c2 j hj
        · rw [lo (12 + j) (by omega) (by omega), lo (42 + j) (by omega) (by omega)]; exact c3 j hj
        · rw [lo (72 + j) (by omega) (by omega)]; exact c4 j hj
        · have w0 := sh j 0 hj (by omega)
          have w1 := sh j 1 hj (by omega)
          have w2 := sh j 2 hj (by omega)
          have w3 := sh j 3 hj (by omega)
          show X3_removeAt 80 (a0 3) p0 j = b' 0 (132 + 0 + 5 * j) ∧ X3_removeAt 80 (a0 4) p0 j = b' 0 (132 + 1 + 5 * j) ∧ X3_removeAt 80 (a0 5) p0 j = b' 0 (132 + 2 + 5 * j) ∧ X3_removeAt 80 (a0 6) p0 j = b' 0 (132 + 3 + 5 * j)
          rw [w0, w1, w2, w3, hp, lq_remove (by omega), lq_remove (by omega), lq_remove (by omega), lq_remove (by omega)]
          by_cases q : k ≤ j
          · rw [if_pos q, if_pos q, if_pos q, if_pos q, if_pos (by omega), if_pos (by omega), if_pos (by omega), if_pos (by omega)]
            exact c5 (j + 1) (by omega)
          · rw [if_neg q, if_neg q, if_neg q, if_neg q, if_neg (by omega), if_neg (by omega), if_neg (by omega), if_neg (by omega)]
            exact c5 j (by omega)
      have key := r4 (g := b' 0) ⟨L, F, m, rs⟩
      exact key.to rfl rfl rfl (lq_row 0).symm ((t2 2 (by decide)).trans rfl) ((t2 3 (by decide)).trans rfl) ((t2 4 (by decide)).trans rfl)
/-! ===== scanning ===== -/
theorem lq_turnW {L F Z : Nat} {f : Nat → Int32} (hW : WF L F Z f) (hF : F < L) : S_X8_turns f ∧ ∃ t : Nat, F + t ≤ L ∧ (X8_turns f).1 = nI t ∧ WF L (F + t) Z (X8_turns f).2 := by
  have hR : RS L F Z f (fun j k => if j = 0 then f (12 + k) else if j = 1 then f (42 + k) else if j = 2 then f (72 + k) else if j = 3 then f (132 + 5 * k) else if j = 4 then f (133 + 5 * k) else if j = 5 then f (134 + 5 * k) else if j = 6 then f (135 + 5 * k) else f (9 + k)) f :=
    ⟨hW, fun _ _ => rfl, fun _ _ => rfl, fun _ _ => ⟨rfl, rfl⟩, fun _ _ => rfl, fun _ _ => ⟨rfl, rfl, rfl, rfl⟩⟩
  obtain ⟨s1, t, ht, e1, e2, e3⟩ := lq_turn hR hF
  exact ⟨s1, t, ht, e2, e3.1⟩
theorem lq_n2 (L F : Nat) : lq_n L F ≤ 2 := by unfold lq_n; split <;> split <;> omega
/-- the reference's scan once there is no room: it ends in FULL -/
theorem lq_scanB {p0 : Int32} {L Z0 : Nat} {row : Nat → Int32} (hL0 : 0 < L) (hz : row 2 = nI Z0) (hZ0 : Z0 ≤ 80) : ∀ (fu k N T F Z : Nat) (b : Nat → Nat → Int32), b 0 = row → WF L F Z (b 1) → 80 < Z0 + N → N ≤ 2 * k → k ≤ 60 → T ≤ 30 * k → p0 = nI (p0.toNatClampNeg) → p0.toNatClampNeg ≤ 60 → k ≤ p0.toNatClampNeg → p0.toNatClampNeg - k < fu →
    S_X8_scan_L45 i a p0 fu (nI N) (nI T) (nI k) b ∧ ∃ b', X8_scan_L45 i a p0 fu (nI N) (nI T) (nI k) b = ((-3), (i, b')) ∧ ∀ j, j ≠ 1 → b' j = b j := by
  intro fu
  induction fu with
  | zero => intro k N T F Z b _ _ _ _ _ _ _ _ _ h; omega
  | succ fu ih =>
    intro k N T F Z b hb hW hN hNk hk hT hp hp60 hkp hfu
    have hLe := hW.1
    have hFL := hW.2.1
    have nn := lq_n2 L F
    obtain ⟨w1, w2, Z', w3⟩ := lq_shotsW hW hL0
    have t0 : ¬ nI T < 0 := nI_pos (by omega)
    have big : ∀ x : Nat, x ≤ 2 → ¬ (b 0 2 + (nI N + nI x)) ≤ 80 := by
      intro x hx
      rw [hb, hz, nI_add, nI_add]
      exact nI_ge (a := 80) (by omega) (by omega)
    have fin : ((b 1 1 = b 1 0 → (nI T < 0 → ((b 0 2 + (nI N + 0)) ≤ 80 → False) ) ) ) := fun _ q => absurd q t0
    have rec0 : ∀ P : Prop, ((b 0 2 + (nI N + 0)) ≤ 80 → P) := fun P q => absurd q (big 0 (by omega))
    have exit : ((if b 1 1 = b 1 0 then (if nI T < 0 then (if (b 0 2 + (nI N + 0)) ≤ 80 then (nI N + 0, ((X8_records i b).1, va_up (X8_records i b).2 0 (X8_lays 532 532 ((X8_records i b).2 1) ((X8_records i b).2 0) 0 0))) else ((-3 : Int32), (i, b))) else (if (b 0 2 + (nI N + (X8_shots (b 1)).1)) ≤ 80 then (nI N + (X8_shots (b 1)).1, ((X8_records i (va_up b 1 (X8_shots (b 1)).2)).1, va_up (X8_records i (va_up b 1 (X8_shots (b 1)).2)).2 0 (X8_lays 532 532 ((X8_records i (va_up b 1 (X8_shots (b 1)).2)).2 1) ((X8_records i (va_up b 1 (X8_shots (b 1)).2)).2 0) 0 0))) else ((-3 : Int32), (i, va_up b 1 (X8_shots (b 1)).2)))) else (if (b 0 2 + (nI N + 0)) ≤ 80 then (nI N + 0, ((X8_records i b).1, va_up (X8_records i b).2 0 (X8_lays 532 532 ((X8_records i b).2 1) ((X8_records i b).2 0) 0 0))) else ((-3 : Int32), (i, b)))) = (((-3 : Int32), (i, if b 1 1 = b 1 0 then va_up b 1 (X8_shots (b 1)).2 else b)) : Int32 × ((Nat → Int32) × (Nat → Nat → Int32)))) := by
      by_cases q : b 1 1 = b 1 0
      · rw [if_pos q, if_neg t0, w2, if_neg (big _ nn), if_pos q]
      · rw [if_neg q, if_neg (show ¬ (b 0 2 + (nI N + 0)) ≤ 80 from big 0 (by omega)), if_neg q]
    have exS : ((b 1 1 = b 1 0 → (nI T < 0 → ((b 0 2 + (nI N + 0)) ≤ 80 → S_X8_records i b ∧ ∀ x_146, x_146 = X8_records i b → S_X8_lays 532 532 (x_146.2 1) (x_146.2 0) 0 0 ∧ ∀ x_159, x_159 = X8_lays 532 532 (x_146.2 1) (x_146.2 0) 0 0 → True) ∧ (¬ (b 0 2 + (nI N + 0)) ≤ 80 → True)) ∧ (¬ nI T < 0 → S_X8_shots (b 1) ∧ ∀ x_116, x_116 = X8_shots (b 1) → ((b 0 2 + (nI N + x_116.1)) ≤ 80 → S_X8_records i (va_up b 1 x_116.2) ∧ ∀ x_146, x_146 = X8_records i (va_up b 1 x_116.2) → S_X8_lays 532 532 (x_146.2 1) (x_146.2 0) 0 0 ∧ ∀ x_159, x_159 = X8_lays 532 532 (x_146.2 1) (x_146.2 0) 0 0 → True) ∧ (¬ (b 0 2 + (nI N + x_116.1)) ≤ 80 → True))) ∧ (¬ b 1 1 = b 1 0 → ((b 0 2 + (nI N + 0)) ≤ 80 → S_X8_records i b ∧ ∀ x_146, x_146 = X8_records i b → S_X8_lays 532 532 (x_146.2 1) (x_146.2 0) 0 0 ∧ ∀ x_159, x_159 = X8_lays 532 532 (x_146.2 1) (x_146.2 0) 0 0 → True) ∧ (¬ (b 0 2 + (nI N + 0)) ≤ 80 → True))) :=
      ⟨fun _ => ⟨fun q => absurd q t0, fun _ => ⟨w1, fun x hx => ⟨fun q => absurd q (by rw [hx, w2]; exact big _ nn), fun _ => trivial⟩⟩⟩, fun _ => ⟨fun q => absurd q (big 0 (by omega)), fun _ => trivial⟩⟩
    have exb : ∀ j, j ≠ 1 → (if b 1 1 = b 1 0 then va_up b 1 (X8_shots (b 1)).2 else b) j = b j := by
      intro j hj
      split
      · exact lq_rown hj
      · rfl
    by_cases cp : p0 ≤ nI k
    · exact ⟨⟨fun _ => exS, fun q => absurd cp q⟩, _, (if_pos cp).trans exit, exb⟩
    · have kp : k < p0.toNatClampNeg := by
        rcases Nat.lt_or_ge k p0.toNatClampNeg with q | q
        · exact q
        · exact absurd (by rw [hp]; exact nI_le q (by omega)) cp
      by_cases cl : b 1 0 ≤ b 1 1
      · exact ⟨⟨fun q => absurd q cp, fun _ => ⟨fun _ => exS, fun q => absurd cl q⟩⟩, _, ((if_neg cp).trans (if_pos cl)).trans exit, exb⟩
      · have hlt : F < L := by
          rcases Nat.lt_or_ge F L with q | q
          · exact q
          · exact absurd (by rw [hW.l, hW.f]; exact nI_le q (by omega)) cl
        obtain ⟨s1, t, ht, e1, e2⟩ := lq_turnW w3 hlt
        obtain ⟨u1, b', u2, u3⟩ := ih (k + 1) (N + lq_n L F) (T + t) (F + t) Z' (va_up b 1 (X8_turns (X8_shots (b 1)).2).2) (by rw [lq_rown (by decide)]; exact hb) (by rw [lq_row]; exact e2) (by omega) (by omega) (by omega) (by omega) hp hp60 (by omega) (by omega)
        refine ⟨⟨fun q => absurd q cp, fun _ => ⟨fun q => absurd q cl, fun _ => ⟨w1, fun x hx => ⟨by rw [hx]; exact s1, fun y hy => ⟨?_, trivial⟩⟩⟩⟩⟩, b', ((if_neg cp).trans (if_neg cl)).trans ?_, fun j hj => (u3 j hj).trans (lq_rown hj)⟩
        · rw [hy, hx, w2, e1, nI_add, nI_add, nI_1]; exact u1
        · dsimp only
          rw [w2, e1, nI_add, nI_add, nI_1]; exact u2
end ACTSD
