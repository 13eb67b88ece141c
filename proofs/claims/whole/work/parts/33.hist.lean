set_option maxRecDepth 100000
/-! ===== rows laid, and the history ===== -/
theorem lq_laysL {n n' x y : Nat} {f f' : Nat → Int32} (hx : x + 532 ≤ n) (hn : n < 100000) (hy : y + 532 ≤ n') (hn' : n' < 100000) :
    ∀ (fu v : Nat) (g : Nat → Int32), v ≤ 532 → 532 - v < fu →
      X8_lays_L3 n n' f f' (nI x) (nI y) fu (nI v) g = (fun j => if y + v ≤ j ∧ j < y + 532 then f (x + (j - y)) else g j) ∧ S_X8_lays_L3 n n' f f' (nI x) (nI y) fu (nI v) g := by
  intro fu
  induction fu with
  | zero => intro v g _ h; omega
  | succ fu ih =>
    intro v g hv hfu
    by_cases c : v = 532
    · subst c
      have g1 : (532 : Int32) ≤ nI 532 := by decide
      refine ⟨(if_pos g1).trans ?_, ⟨fun _ => trivial, fun q => absurd g1 q⟩⟩
      funext j
      rw [if_neg (by omega)]
    · have g1 : ¬ (532 : Int32) ≤ nI v := nI_ge (b := 532) (by omega) (by decide)
      have e1 : (nI y + nI v).toNatClampNeg = y + v := by rw [nI_add]; exact nI_clamp (by omega)
      have e2 : (nI x + nI v).toNatClampNeg = x + v := by rw [nI_add]; exact nI_clamp (by omega)
      have w1 : vp_in (nI y + nI v) n' := by rw [nI_add]; exact vp_in_nI (by omega) (by omega)
      have w2 : vp_in (nI x + nI v) n := by rw [nI_add]; exact vp_in_nI (by omega) (by omega)
      obtain ⟨h1, h2⟩ := ih (v + 1) (upd g (y + v) (f (x + v))) (by omega) (by omega)
      refine ⟨(if_neg g1).trans ?_, ⟨fun q => absurd q g1, fun _ => ?_⟩⟩
      · rw [e1, e2, nI_1, h1]
        funext j
        by_cases cj : j = y + v
        · subst cj
          rw [if_neg (by omega), if_pos (by omega), pk_us]
          congr 1; omega
        · rw [pk_un cj]
          by_cases c2 : y + (v + 1) ≤ j ∧ j < y + 532
          · rw [if_pos c2, if_pos (by omega)]
          · rw [if_neg c2, if_neg (by omega)]
      · first
          | exact ⟨w2, w1, by rw [e1, e2, nI_1]; exact h2, trivial⟩
          | exact ⟨w1, w2, by rw [e1, e2, nI_1]; exact h2, trivial⟩
theorem lq_lays {n n' x y : Nat} {f f' : Nat → Int32} {c1 c3 : Int32} (h1 : c1 = nI x) (h3 : c3 = nI y) (hx : x + 532 ≤ n) (hn : n < 100000) (hy : y + 532 ≤ n') (hn' : n' < 100000) :
    X8_lays n n' f f' c1 c3 = (fun j => if y ≤ j ∧ j < y + 532 then f (x + (j - y)) else f' j) ∧ S_X8_lays n n' f f' c1 c3 := by
  subst h1; subst h3
  have h := lq_laysL (f := f) (f' := f') hx hn hy hn' (((532 : Int32).toInt - (0 : Int32).toInt).toNat + 1) 0 f' (by omega) (by decide)
  exact ⟨h.1, h.2, trivial⟩
theorem lq_recL {i : Nat → Int32} {a : Nat → Nat → Int32} (hi : i 0 = 4) :
    ∀ (fu v : Nat) (b : Nat → Nat → Int32), v ≤ 1596 → 1596 - v < fu → (∀ j, j ≠ 2 → b j = a j) → (∀ k, b 2 k = if k < v then a 2 (k + 532) else a 2 k) →
      ∃ i' a', X8_records_L10 i a fu (nI v) b = (i', a') ∧ S_X8_records_L10 i a fu (nI v) b ∧ i' 0 = 4 ∧ (∀ k, k ≠ 0 → i' k = i k) ∧ (∀ j, j ≠ 2 → a' j = a j) ∧ (∀ k, k < 1596 → a' 2 k = a 2 (k + 532)) ∧ (∀ k, k < 532 → a' 2 (1596 + k) = a 0 k) := by
  intro fu
  induction fu with
  | zero => intro v g _ h; omega
  | succ fu ih =>
    intro v b hv hfu hb hb2
    by_cases c : v = 1596
    · subst c
      have g1 : (1596 : Int32) ≤ nI 1596 := by decide
      have e3 : (532 : Int32) * (i 0 - 1) = nI 1596 := by rw [hi]; decide
      obtain ⟨l1, l2⟩ := lq_lays (n := 532) (n' := 2128) (x := 0) (y := 1596) (f := b 0) (f' := b 2) (c1 := 0) (c3 := 532 * (i 0 - 1)) rfl e3 (by omega) (by omega) (by omega) (by omega)
      refine ⟨_, _, (if_pos g1).trans rfl, ?_, ?_, fun k hk => pk_un hk, fun j hj => ?_, fun k hk => ?_, fun k hk => ?_⟩
      · unfold S_X8_records_L10
        refine ⟨fun _ => ?_, fun q => absurd g1 q⟩
        first
          | exact ⟨l2, fun _ _ => trivial⟩
          | exact fun _ _ => ⟨l2, fun _ _ => trivial⟩
      · show upd i 0 (i 0 - 1 + 1) 0 = 4
        rw [pk_us, hi]; decide
      · show va_up b 2 _ j = a j
        unfold va_up
        rw [if_neg hj]; exact hb j hj
      · show va_up b 2 _ 2 k = _
        unfold va_up
        rw [if_pos rfl, l1]
        show (if 1596 ≤ k ∧ k < 1596 + 532 then b 0 (0 + (k - 1596)) else b 2 k) = _
        rw [if_neg (by omega), hb2, if_pos hk]
      · show va_up b 2 _ 2 (1596 + k) = _
        unfold va_up
        rw [if_pos rfl, l1]
        show (if 1596 ≤ 1596 + k ∧ 1596 + k < 1596 + 532 then b 0 (0 + (1596 + k - 1596)) else b 2 (1596 + k)) = _
        rw [if_pos (by omega), hb 0 (by decide)]
        congr 1; omega
    · have g1 : ¬ (1596 : Int32) ≤ nI v := nI_ge (b := 1596) (by omega) (by decide)
      have e1 : (nI v).toNatClampNeg = v := nI_clamp (by omega)
      have e2 : (nI v + 532).toNatClampNeg = v + 532 := by rw [show (532 : Int32) = nI 532 from rfl, nI_add]; exact nI_clamp (by omega)
      have w1 : vp_in (nI v) 2128 := vp_in_nI (by omega) (by decide)
      have w2 : vp_in (nI v + 532) 2128 := by rw [show (532 : Int32) = nI 532 from rfl, nI_add]; exact vp_in_nI (by omega) (by decide)
      obtain ⟨i', a', h1, h2, h3⟩ := ih (v + 1) (va_up b 2 (upd (b 2) v (b 2 (v + 532)))) (by omega) (by omega) (fun j hj => by unfold va_up; rw [if_neg hj]; exact hb j hj) (fun k => by
        unfold va_up
        rw [if_pos rfl]
        by_cases ck : k = v
        · subst ck
          rw [pk_us, if_pos (by omega), hb2, if_neg (by omega)]
        · rw [pk_un ck, hb2]
          by_cases c2 : k < v
          · rw [if_pos c2, if_pos (by omega)]
          · rw [if_neg c2, if_neg (by omega)])
      refine ⟨i', a', (if_neg g1).trans ?_, ⟨fun q => absurd q g1, fun _ => ?_⟩, h3⟩
      · rw [e1, e2, nI_1]; exact h1
      · first
          | exact ⟨w2, w1, by rw [e1, e2, nI_1]; exact h2, trivial⟩
          | exact ⟨w1, w2, by rw [e1, e2, nI_1]; exact h2, trivial⟩
/-- what recording does to the reference's object -/
theorem lq_records {n : Nat} {i : Nat → Int32} {a : Nat → Nat → Int32} (hi : i 0 = nI n) (hn : n ≤ 4) :
    S_X8_records i a ∧ ∃ i' a', X8_records i a = (i', a') ∧ i' 0 = nI (if n = 4 then 4 else n + 1) ∧ (∀ k, k ≠ 0 → i' k = i k) ∧ (∀ j, j ≠ 2 → a' j = a j) ∧
      (∀ j k, j < (if n = 4 then 3 else n) → k < 532 → a' 2 (532 * j + k) = a 2 (532 * (if n = 4 then j + 1 else j) + k)) ∧ (∀ k, k < 532 → a' 2 (532 * (if n = 4 then 3 else n) + k) = a 0 k) := by
  unfold X8_records S_X8_records
  by_cases c : n = 4
  · subst c
    have c4 : i 0 = 4 := hi
    obtain ⟨i', a', h1, h2, h3, h4, h5, h6, h7⟩ := lq_recL (a := a) c4 (((1596 : Int32).toInt - (0 : Int32).toInt).toNat + 1) 0 a (by omega) (by decide) (fun _ _ => rfl) (fun k => by rw [if_neg (by omega)])
    refine ⟨⟨fun _ => ⟨h2, trivial⟩, fun q => absurd c4 q⟩, i', a', (if_pos c4).trans h1, h3, h4, h5, fun j k hj hk => ?_, fun k hk => h7 k hk⟩
    have hj' : j < 3 := hj
    rw [h6 _ (by omega), if_pos rfl]
    congr 1; omega
  · have c4 : ¬ i 0 = 4 := by
      rw [hi]; intro z; exact c ((nI_eq (a := n) (b := 4) (by omega) (by decide)).mp z)
    have e3 : (532 : Int32) * i 0 = nI (532 * n) := by rw [hi, show (532 : Int32) = nI 532 from rfl, pk_mul]
    obtain ⟨l1, l2⟩ := lq_lays (n := 532) (n' := 2128) (x := 0) (y := 532 * n) (f := a 0) (f' := a 2) (c1 := 0) (c3 := 532 * i 0) rfl e3 (by omega) (by omega) (by omega) (by omega)
    refine ⟨⟨fun q => absurd q c4, fun _ => ?_⟩, _, _, (if_neg c4).trans rfl, ?_, fun k hk => pk_un hk, fun j hj => ?_, fun j k hj hk => ?_, fun k hk => ?_⟩
    · first
        | exact ⟨l2, fun _ _ => trivial⟩
        | exact fun _ _ => ⟨l2, fun _ _ => trivial⟩
    · show upd i 0 (i 0 + 1) 0 = _
      rw [pk_us, hi, nI_1, if_neg c]
    · show va_up a 2 _ j = a j
      unfold va_up
      rw [if_neg hj]
    · rw [if_neg c] at hj
      show va_up a 2 _ 2 (532 * j + k) = _
      unfold va_up
      rw [if_pos rfl, l1]
      show (if 532 * n ≤ 532 * j + k ∧ 532 * j + k < 532 * n + 532 then a 0 (0 + (532 * j + k - 532 * n)) else a 2 (532 * j + k)) = _
      rw [if_neg (by omega), if_neg c]
    · rw [if_neg c]
      show va_up a 2 _ 2 (532 * n + k) = _
      unfold va_up
      rw [if_pos rfl, l1]
      show (if 532 * n ≤ 532 * n + k ∧ 532 * n + k < 532 * n + 532 then a 0 (0 + (532 * n + k - 532 * n)) else a 2 (532 * n + k)) = _
      rw [if_pos (by omega)]
      congr 1; omega
theorem RS.congr {L F Z : Nat} {i : Nat → Int32} {a : Nat → Nat → Int32} {f g : Nat → Int32} (h : RS L F Z i a f) (e : ∀ k, k < 532 → g k = f k) : RS L F Z i a g := by
  obtain ⟨⟨a1, a2, a3, a4, a5, a6, ⟨q, s, u, o, b1, b2, b3, b4, b5, b6, b7, b8, b9, b10⟩, a8⟩, c1, c2, c3, c4, c5⟩ := h
  refine ⟨⟨a1, a2, a3, (e 0 (by omega)).trans a4, (e 1 (by omega)).trans a5, (e 2 (by omega)).trans a6, ⟨q, s, u, o, b1, b2, b3, b4, b5, (e 7 (by omega)).trans b6, (e 9 (by omega)).trans b7, (e 8 (by omega)).trans b8, (e 11 (by omega)).trans b9, ?_⟩, fun k hk => ?_⟩, fun k hk => ?_, fun k hk => ?_, fun k hk => ?_, fun k hk => ?_, fun k hk => ?_⟩
  · rw [e 10 (by omega)]; exact b10
  · rw [e (134 + 5 * k) (by omega), e (132 + 5 * k) (by omega), e (136 + 5 * k) (by omega)]; exact a8 k hk
  · rw [e k (by omega)]; exact c1 k hk
  · rw [e _ (by omega)]; exact c2 k hk
  · rw [e _ (by omega), e _ (by omega)]; exact c3 k hk
  · rw [e _ (by omega)]; exact c4 k hk
  · rw [e _ (by omega), e _ (by omega), e _ (by omega), e _ (by omega)]; exact c5 k hk
def RX (i : Nat → Int32) (a : Nat → Nat → Int32) (f : Nat → Int32) : Prop := ∃ L F Z : Nat, RS L F Z i a f
theorem RX.congr {i : Nat → Int32} {a : Nat → Nat → Int32} {f g : Nat → Int32} (h : RX i a f) (e : ∀ k, k < 532 → g k = f k) : RX i a g := by
  obtain ⟨L, F, Z, h⟩ := h
  exact ⟨L, F, Z, h.congr e⟩
/-- the history, on both sides -/
def RH (n : Nat) (z : Int32) (Vh : Nat → lt_SV) (i : Nat → Int32) (p : Nat → Int32) : Prop := n ≤ 4 ∧ z = nI n ∧ i 0 = nI n ∧ ∀ j, j < n → RX (Vh j).1 (Vh j).2 (fun k => p (532 * j + k))
theorem RH.hz {n : Nat} {z : Int32} {Vh : Nat → lt_SV} {i : Nat → Int32} {p : Nat → Int32} (h : RH n z Vh i p) : lt_hz z := by
  obtain ⟨h1, h2, -⟩ := h
  subst h2
  unfold lt_hz
  rcases (show n = 0 ∨ n = 1 ∨ n = 2 ∨ n = 3 ∨ n = 4 by omega) with rfl | rfl | rfl | rfl | rfl <;> simp [nI]
/-- recording, on both sides -/
theorem lq_rec {n : Nat} {z : Int32} {Vh : Nat → lt_SV} {i : Nat → Int32} {a : Nat → Nat → Int32} {i0 : Nat → Int32} {a0 : Nat → Nat → Int32} (h : RH n z Vh i (a 2)) (hr : RX i0 a0 (a 0)) :
    S_X8_records i a ∧ (∃ n', RH n' (X2_recz z) (X2_recV z Vh i0 a0) (X8_records i a).1 ((X8_records i a).2 2)) ∧ (∀ k, k ≠ 0 → (X8_records i a).1 k = i k) ∧ (∀ j, j ≠ 2 → (X8_records i a).2 j = a j) := by
  obtain ⟨h1, h2, h3, h4⟩ := h
  obtain ⟨s1, i', a', e, e0, e1, e2, e3, e4⟩ := lq_records (a := a) h3 h1
  rw [e]
  refine ⟨s1, ?_, e1, e2⟩
  by_cases c : n = 4
  · subst c
    have hz4 : z = 4 := h2
    refine ⟨4, by omega, ?_, e0, fun j hj => ?_⟩
    · unfold X2_recz; rw [if_pos hz4]; rfl
    · unfold X2_recV
      rw [if_pos hz4]
      by_cases cj : j = 3
      · subst cj
        show RX i0 a0 _
        exact hr.congr (fun k hk => e4 k hk)
      · have ev : va_up (lt_rot Vh) 3 (i0, a0) j = Vh (j + 1) := by
          unfold va_up lt_rot
          rw [if_neg cj, if_neg cj]
        rw [ev]
        exact (h4 (j + 1) (by omega)).congr (fun k hk => e3 j k (show j < 3 by omega) hk)
  · have hz4 : ¬ z = 4 := by rw [h2]; intro q; exact c ((nI_eq (a := n) (b := 4) (by omega) (by decide)).mp q)
    rw [if_neg c] at e0 e4
    refine ⟨n + 1, by omega, ?_, e0, fun j hj => ?_⟩
    · unfold X2_recz; rw [if_neg hz4, h2, nI_1]
    · unfold X2_recV
      rw [if_neg hz4, h2, nI_clamp (by omega)]
      by_cases cj : j = n
      · subst cj
        have ev : va_up Vh j (i0, a0) j = (i0, a0) := by unfold va_up; rw [if_pos rfl]
        rw [ev]
        exact hr.congr (fun k hk => e4 k hk)
      · have ev : va_up Vh n (i0, a0) j = Vh j := by unfold va_up; rw [if_neg cj]
        rw [ev]
        exact (h4 j (by omega)).congr (fun k hk => by
          have q := e3 j k (by rw [if_neg c]; omega) hk
          rw [if_neg c] at q
          exact q)
