set_option maxRecDepth 100000
/-! ===== THE WHOLE, SIDE BY SIDE ===== -/
def RW (hs z : Int32) (Vh : Nat → lt_SV) (i0 : Nat → Int32) (a0 : Nat → Nat → Int32) (i2 : Nat → Int32) (a2 : Nat → Nat → Int32) (len : Int32) (sg : Nat → Int32) (i : Nat → Int32) (a : Nat → Nat → Int32) : Prop :=
  (∃ n, RH n z Vh i (a 2)) ∧ RX i0 a0 (a 0) ∧ ((hs = 0 ∧ i 1 = 0) ∨ (hs = 1 ∧ i 1 = 1 ∧ RX i2 a2 (a 3))) ∧ ∃ t : Nat, t ≤ 60 ∧ len = nI t ∧ i 2 = nI t ∧ ∀ k, k < t → sg k = a 4 k
theorem RW.hz {hs z : Int32} {Vh : Nat → lt_SV} {i0 : Nat → Int32} {a0 : Nat → Nat → Int32} {i2 : Nat → Int32} {a2 : Nat → Nat → Int32} {len : Int32} {sg : Nat → Int32} {i : Nat → Int32} {a : Nat → Nat → Int32} (h : RW hs z Vh i0 a0 i2 a2 len sg i a) : lt_hz z := by
  obtain ⟨⟨n, h⟩, -⟩ := h
  exact h.hz
theorem RW.to {hs z : Int32} {Vh : Nat → lt_SV} {i0 : Nat → Int32} {a0 : Nat → Nat → Int32} {i2 : Nat → Int32} {a2 : Nat → Nat → Int32} {len : Int32} {sg : Nat → Int32} {i i' : Nat → Int32} {a a' : Nat → Nat → Int32} (h : RW hs z Vh i0 a0 i2 a2 len sg i a)
    (e0 : i' 0 = i 0) (e1 : i' 1 = i 1) (e2 : i' 2 = i 2) (f0 : a' 0 = a 0) (f2 : a' 2 = a 2) (f3 : a' 3 = a 3) (f4 : a' 4 = a 4) : RW hs z Vh i0 a0 i2 a2 len sg i' a' := by
  obtain ⟨⟨n, b1, b2, b3, b4⟩, c, d, t, g1, g2, g3, g4⟩ := h
  refine ⟨⟨n, b1, b2, e0.trans b3, ?_⟩, ?_, ?_, t, g1, g2, e2.trans g3, ?_⟩
  · rw [f2]; exact b4
  · rw [f0]; exact c
  · rw [e1, f3]; exact d
  · rw [f4]; exact g4
theorem RW.a1 {hs z : Int32} {Vh : Nat → lt_SV} {i0 : Nat → Int32} {a0 : Nat → Nat → Int32} {i2 : Nat → Int32} {a2 : Nat → Nat → Int32} {len : Int32} {sg : Nat → Int32} {i : Nat → Int32} {a : Nat → Nat → Int32} (h : RW hs z Vh i0 a0 i2 a2 len sg i a) (f : Nat → Int32) : RW hs z Vh i0 a0 i2 a2 len sg i (va_up a 1 f) :=
  h.to rfl rfl rfl rfl rfl rfl rfl
/-- an act: the state before it is recorded, the row becomes another one -/
theorem lq_act {hs z : Int32} {Vh : Nat → lt_SV} {i0 : Nat → Int32} {a0 : Nat → Nat → Int32} {i2 : Nat → Int32} {a2 : Nat → Nat → Int32} {len : Int32} {sg : Nat → Int32} {i : Nat → Int32} {a : Nat → Nat → Int32} (h : RW hs z Vh i0 a0 i2 a2 len sg i a) :
    S_X8_records i a ∧ (∀ j, j ≠ 2 → (X8_records i a).2 j = a j) ∧ (∀ k, k ≠ 0 → (X8_records i a).1 k = i k) ∧ ∀ {j0 : Nat → Int32} {b0 : Nat → Nat → Int32} {g : Nat → Int32}, RX j0 b0 g → RW hs (X2_recz z) (X2_recV z Vh i0 a0) j0 b0 i2 a2 len sg (X8_records i a).1 (va_up (X8_records i a).2 0 g) := by
  obtain ⟨⟨n, b⟩, c, d, t, g1, g2, g3, g4⟩ := h
  obtain ⟨s1, ⟨n', r1⟩, r2, r3⟩ := lq_rec b c
  refine ⟨s1, r3, r2, fun {j0 b0 g} hx => ⟨⟨n', r1⟩, hx, ?_, t, g1, g2, (r2 2 (by decide)).trans g3, ?_⟩⟩
  · show (hs = 0 ∧ (X8_records i a).1 1 = 0) ∨ (hs = 1 ∧ (X8_records i a).1 1 = 1 ∧ RX i2 a2 ((X8_records i a).2 3))
    rw [r2 1 (by decide), r3 3 (by decide)]
    exact d
  · show ∀ k, k < t → sg k = (X8_records i a).2 4 k
    rw [r3 4 (by decide)]
    exact g4
theorem lq_row {b : Nat → Nat → Int32} {f : Nat → Int32} (j : Nat) : va_up b j f j = f := by unfold va_up; rw [if_pos rfl]
theorem lq_rown {b : Nat → Nat → Int32} {f : Nat → Int32} {j k : Nat} (h : k ≠ j) : va_up b j f k = b k := by unfold va_up; rw [if_neg h]
/-! a number in a range -/
theorem lq_in0 {p : Int32} {N : Nat} (hN : N ≤ 1000) (h : p < 0 ∨ nI N ≤ p) : X8_in p 0 (nI N - 1) = 0 := by
  unfold X8_in
  by_cases c : p < 0
  · rw [if_pos c]
  · rw [if_neg c]
    have h1 : nI N ≤ p := h.resolve_left c
    have h2 := Int32.le_iff_toInt_le.mp h1
    rw [nI_toInt (by omega)] at h2
    have h3 : (nI N - 1).toInt = (N : Int) - 1 := by
      rw [show (1 : Int32) = nI 1 from rfl, pk_sub_toInt (by omega) (by decide)]; rfl
    rw [if_pos (Int32.lt_iff_toInt_lt.mpr (by omega))]
theorem lq_in1 {N k : Nat} (hN : N ≤ 1000) (h : k < N) : X8_in (nI k) 0 (nI N - 1) = 1 := by
  unfold X8_in
  have h3 : (nI N - 1).toInt = (N : Int) - 1 := by
    rw [show (1 : Int32) = nI 1 from rfl, pk_sub_toInt (by omega) (by decide)]; rfl
  rw [if_neg (nI_pos (by omega)), if_neg]
  intro q
  have := Int32.lt_iff_toInt_lt.mp q
  rw [h3, nI_toInt (by omega)] at this
  omega
theorem lq_inr {p : Int32} {lo hi : Nat} (hh : hi ≤ 10000) (hl : lo ≤ hi) : (X8_in p (nI lo) (nI hi) = 0 ∧ (p < nI lo ∨ nI hi < p)) ∨ (X8_in p (nI lo) (nI hi) = 1 ∧ ¬ p < nI lo ∧ ¬ nI hi < p ∧ ∃ k, lo ≤ k ∧ k ≤ hi ∧ p = nI k) := by
  unfold X8_in
  by_cases c1 : p < nI lo
  · left; exact ⟨if_pos c1, Or.inl c1⟩
  · by_cases c2 : nI hi < p
    · left; rw [if_neg c1, if_pos c2]; exact ⟨rfl, Or.inr c2⟩
    · right
      rw [if_neg c1, if_neg c2]
      refine ⟨rfl, c1, c2, ?_⟩
      have h1 := Int32.le_iff_toInt_le.mp (lt_nlt c1)
      have h2 := Int32.le_iff_toInt_le.mp (lt_nlt c2)
      rw [nI_toInt (by omega)] at h1 h2
      refine ⟨p.toInt.toNat, by omega, by omega, Int32.toInt_inj.mp ?_⟩
      rw [nI_toInt (by omega)]; omega
theorem lq_isPage {L F Z : Nat} {i0 : Nat → Int32} {a0 : Nat → Nat → Int32} {i : Nat → Int32} {a : Nat → Nat → Int32} (h : RS L F Z i0 a0 (a 0)) (p : Int32) :
    (X0_hasPage (i0 0) (a0 0) (a0 1) (a0 2) p = 0 ∧ X8_isPage i a p = 0) ∨ (X0_hasPage (i0 0) (a0 0) (a0 1) (a0 2) p = 1 ∧ X8_isPage i a p = 1 ∧ ∃ k, k < 2 * L ∧ p = nI k) := by
  have hL := h.1.1
  have e1 : X8_isPage i a p = X8_in p 0 (nI (2 * L) - 1) := by
    show X8_in p 0 (2 * (a 0 0) - 1) = _
    rw [h.1.l, show (2 : Int32) = nI 2 from rfl, pk_mul]
  have e2 : X0_pages (i0 0) (a0 0) (a0 1) (a0 2) = nI (2 * L) := by
    unfold X0_pages
    rw [h.l, show (2 : Int32) = nI 2 from rfl, pk_mul]
  unfold X0_hasPage
  rw [e1, e2]
  rcases pk_ix p (n := 2 * L) (by omega) with c | c | ⟨k, hk, rfl⟩
  · left; exact ⟨if_pos c, lq_in0 (by omega) (Or.inl c)⟩
  · left
    refine ⟨?_, lq_in0 (by omega) (Or.inr c)⟩
    by_cases c0 : p < 0
    · exact if_pos c0
    · exact (if_neg c0).trans (if_pos c)
  · right
    exact ⟨(if_neg (nI_pos (by omega))).trans (if_neg (nI_ge hk (by omega))), lq_in1 (by omega) hk, k, hk, rfl⟩
theorem lq_isPic {L F Z : Nat} {i0 : Nat → Int32} {a0 : Nat → Nat → Int32} {i : Nat → Int32} {a : Nat → Nat → Int32} (h : RS L F Z i0 a0 (a 0)) (p : Int32) :
    (X5_has (i0 2) (a0 3) (a0 4) (a0 5) (a0 6) p = 0 ∧ X8_isPicture i a p = 0) ∨ (X5_has (i0 2) (a0 3) (a0 4) (a0 5) (a0 6) p = 1 ∧ X8_isPicture i a p = 1 ∧ ∃ k, k < Z ∧ p = nI k) := by
  have hZ := h.1.2.2.1
  have e1 : X8_isPicture i a p = X8_in p 0 (nI Z - 1) := by
    show X8_in p 0 ((a 0 2) - 1) = _
    rw [h.1.z]
  unfold X5_has
  rw [e1, h.z]
  rcases pk_ix p (n := Z) (by omega) with c | c | ⟨k, hk, rfl⟩
  · left; exact ⟨if_pos c, lq_in0 (by omega) (Or.inl c)⟩
  · left
    refine ⟨?_, lq_in0 (by omega) (Or.inr c)⟩
    by_cases c0 : p < 0
    · exact if_pos c0
    · rw [if_neg c0]
      first
        | exact if_pos c
        | exact if_neg (Int32.not_lt.mpr c)
  · right
    refine ⟨?_, lq_in1 (by omega) hk, k, hk, rfl⟩
    rw [if_neg (nI_pos (by omega))]
    first
      | exact if_neg (nI_ge hk (by omega))
      | exact if_pos (nI_lt hk (by omega))
