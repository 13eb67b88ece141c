/-! ===== what a state is by itself, and that each act keeps it ===== -/
def lo_pr (q : Nat → Int32) : Prop := ∀ j : Nat, j < 60 → q j = (-5) ∨ 0 ≤ q j
def lo_W (i : Nat → Int32) (a : Nat → Nat → Int32) : Prop := ∃ L F Z u : Nat, 1 ≤ L ∧ L ≤ 30 ∧ F ≤ L ∧ Z ≤ 80 ∧ 1 ≤ u ∧ u ≤ 20 ∧ i 0 = nI L ∧ i 1 = nI F ∧ i 2 = nI Z ∧ i 8 = nI u ∧ lo_pr (a 2) ∧ ∀ j : Nat, j < 3 → 0 ≤ a 7 j
theorem lo_n5 : (-5 : Int32) < 0 := by decide
theorem lo_0ne {x : Int32} (h : 0 ≤ x) : ¬ x = (-5) := fun e => absurd h (by rw [e]; decide)
theorem lo_pr.put {q : Nat → Int32} (h : lo_pr q) (k v : Int32) (hv : v = (-5) ∨ 0 ≤ v) : lo_pr (X3_put 60 q k v) := by
  intro j hj
  show (if X3_has 60 q k = 0 then q else upd q k.toNatClampNeg v) j = (-5) ∨ 0 ≤ (if X3_has 60 q k = 0 then q else upd q k.toNatClampNeg v) j
  by_cases c : X3_has 60 q k = 0
  · rw [if_pos c]; exact h j hj
  · rw [if_neg c]
    by_cases y : j = k.toNatClampNeg
    · subst y; rw [pk_us]; exact hv
    · rw [pk_un y]; exact h j hj
theorem lo_pr.at {q : Nat → Int32} (h : lo_pr q) (k : Int32) : X3_at 60 q k = (-5) ∨ 0 ≤ X3_at 60 q k := by
  show (if X3_has 60 q k = 0 then (-5) else q k.toNatClampNeg) = (-5) ∨ 0 ≤ (if X3_has 60 q k = 0 then (-5) else q k.toNatClampNeg)
  by_cases c : X3_has 60 q k = 0
  · rw [if_pos c]; exact Or.inl rfl
  · rw [if_neg c]
    have h1 := lo_vin (lt_has (by decide) c)
    exact h _ (by omega)
/-! ===== turning ===== -/
theorem lo_liftL {i : Nat → Int32} {a : Nat → Nat → Int32} {p : Int32} {L F : Nat} (eL : i 0 = nI L) (hL : L ≤ 30) : ∀ (fu t : Nat) (w : Int32), F + t ≤ L → L - (F + t) < fu → ∃ r : Nat, F + r ≤ L ∧ X6_liftedBy_L10 i a p fu (nI t) w (nI (F + t)) = nI r := by
  intro fu
  induction fu with
  | zero => intro t w _ h; omega
  | succ fu ih =>
    intro t w h1 h2
    by_cases c1 : L ≤ F + t
    · exact ⟨t, h1, if_pos (show i 0 ≤ nI (F + t) by rw [eL]; exact nI_le c1 (by omega))⟩
    · have g1 : ¬ i 0 ≤ nI (F + t) := by rw [eL]; exact nI_ge (by omega) (by omega)
      have e : X6_liftedBy_L10 i a p (fu + 1) (nI t) w (nI (F + t)) = (if (w + X3_at 30 (a 0) (nI (F + t))) ≤ p then (if nI t ≤ 0 then X6_liftedBy_L10 i a p fu (nI t + 1) (w + X3_at 30 (a 0) (nI (F + t))) (nI (F + t) + 1) else (if (p - w) < X3_at 30 (a 1) (nI (F + t) - 1) then X6_liftedBy_L10 i a p fu (nI t + 1) (w + X3_at 30 (a 0) (nI (F + t))) (nI (F + t) + 1) else nI t)) else nI t) := if_neg g1
      have hr : ∃ r : Nat, F + r ≤ L ∧ X6_liftedBy_L10 i a p fu (nI t + 1) (w + X3_at 30 (a 0) (nI (F + t))) (nI (F + t) + 1) = nI r := by
        rw [nI_1, nI_1]
        exact ih (t + 1) _ (by omega) (by omega)
      rw [e]
      by_cases c2 : (w + X3_at 30 (a 0) (nI (F + t))) ≤ p
      · rw [if_pos c2]
        by_cases c3 : nI t ≤ 0
        · rw [if_pos c3]; exact hr
        · rw [if_neg c3]
          by_cases c4 : (p - w) < X3_at 30 (a 1) (nI (F + t) - 1)
          · rw [if_pos c4]; exact hr
          · rw [if_neg c4]; exact ⟨t, h1, rfl⟩
      · rw [if_neg c2]; exact ⟨t, h1, rfl⟩
theorem lo_lift {i : Nat → Int32} {a : Nat → Nat → Int32} {L F : Nat} (eL : i 0 = nI L) (eF : i 1 = nI F) (hL : L ≤ 30) (hF : F ≤ L) (p : Int32) : ∃ r : Nat, F + r ≤ L ∧ X6_liftedBy i a p = nI r := by
  have e : X6_liftedBy i a p = X6_liftedBy_L10 i a p (((i 0 : Int32).toInt - ((i 1) : Int32).toInt).toNat + 1) (nI 0) 0 (nI (F + 0)) := by
    unfold X6_liftedBy
    rw [eF]
    rfl
  rw [e]
  refine lo_liftL eL hL _ 0 0 (by omega) ?_
  rw [eL, eF, nI_toInt (by omega), nI_toInt (by omega)]
  omega
theorem lo_clamp (x : Int32) : ∃ u : Nat, 1 ≤ u ∧ u ≤ 20 ∧ (if 1 < (if x < 20 then x else 20 : Int32) then (if x < 20 then x else 20 : Int32) else 1) = nI u := by
  by_cases c : x < 20
  · rw [if_pos c]
    by_cases c2 : 1 < x
    · rw [if_pos c2]
      have h1 := Int32.lt_iff_toInt_lt.mp c
      have h2 := Int32.lt_iff_toInt_lt.mp c2
      have h3 : (20 : Int32).toInt = 20 := by decide
      have h4 : (1 : Int32).toInt = 1 := by decide
      rw [h3] at h1
      rw [h4] at h2
      refine ⟨x.toInt.toNat, by omega, by omega, Int32.toInt_inj.mp ?_⟩
      rw [nI_toInt (by omega)]
      omega
    · rw [if_neg c2]; exact ⟨1, by omega, by omega, rfl⟩
  · rw [if_neg c, if_pos (by decide)]
    exact ⟨20, by omega, by omega, rfl⟩
def lo_lp (i f : Nat → Int32) : Prop := (∃ u' : Nat, 1 ≤ u' ∧ u' ≤ 20 ∧ f 8 = nI u') ∧ ∀ j : Nat, j ≠ 7 → j ≠ 8 → f j = i j
theorem lo_learn {i : Nat → Int32} {a : Nat → Nat → Int32} {p : Int32} {u : Nat} (h1 : 1 ≤ u) (h2 : u ≤ 20) (e : i 8 = nI u) : lo_lp i (X6_learnFrom i a p) := by
  have A : ∀ c x : Int32, lo_lp i (upd (upd i 7 c) 8 (if 1 < (if x < 20 then x else 20 : Int32) then (if x < 20 then x else 20 : Int32) else 1)) := fun c x => ⟨by rw [pk_us]; exact lo_clamp x, fun j h7 h8 => by rw [pk_un h8, pk_un h7]⟩
  have B : ∀ c : Int32, lo_lp i (upd i 7 c) := fun c => ⟨⟨u, h1, h2, by rw [pk_un (by decide)]; exact e⟩, fun j h7 h8 => by rw [pk_un h7]⟩
  unfold X6_learnFrom
  dsimp only
  by_cases c1 : p = 0
  · rw [if_pos c1]
    by_cases c2 : p = 1
    · rw [if_pos c2]
      by_cases c3 : (i 7) + 1 = 5
      · rw [if_pos c3]
        by_cases c4 : X3_at 3 (a 7) 1 = 1
        · rw [if_pos c4]; exact A _ _
        · rw [if_neg c4]; exact B _
      · rw [if_neg c3]
        by_cases c4 : X3_at 3 (a 7) 1 = 1
        · rw [if_pos c4]; exact A _ _
        · rw [if_neg c4]; exact B _
    · rw [if_neg c2]
      by_cases c4 : X3_at 3 (a 7) 1 = 1
      · rw [if_pos c4]; exact A _ _
      · rw [if_neg c4]; exact B _
  · rw [if_neg c1]
    by_cases c2 : p = 1
    · rw [if_pos c2]
      by_cases c3 : (i 7) + 1 = 5
      · rw [if_pos c3]
        by_cases c4 : X3_at 3 (a 7) 1 = 1
        · rw [if_pos c4]; exact A _ _
        · rw [if_neg c4]; exact B _
      · rw [if_neg c3]
        by_cases c4 : X3_at 3 (a 7) 1 = 1
        · rw [if_pos c4]; exact A _ _
        · rw [if_neg c4]; exact B _
    · rw [if_neg c2]
      by_cases c4 : X3_at 3 (a 7) 1 = 1
      · rw [if_pos c4]; exact A _ _
      · rw [if_neg c4]; exact B _
theorem lo_turnW {i : Nat → Int32} {a : Nat → Nat → Int32} (h : lo_W i a) : (∃ r : Nat, r ≤ 30 ∧ (X6_turnOnce i a).1 = nI r) ∧ lo_W (X6_turnOnce i a).2 a := by
  obtain ⟨L, F, Z, u, a1, a2, a3, a4, a5, a6, e0, e1, e2, e8, hp, hs⟩ := h
  obtain ⟨r, r1, r2⟩ := lo_lift (a := a) e0 e1 a2 a3 (i 8)
  have eS : i 1 + X6_liftedBy i a (i 8) = nI (F + r) := by rw [e1, r2, nI_add]
  have key : ∀ i' : Nat → Int32, i' 0 = i 0 → i' 1 = i 1 + X6_liftedBy i a (i 8) → i' 2 = i 2 → i' 8 = i 8 → lo_W (X6_learnFrom i' a (X6_liftedBy i a (i 8))) a := by
    intro i' q0 q1 q2 q8
    obtain ⟨⟨u', u1, u2, u3⟩, k⟩ := lo_learn (i := i') (a := a) (p := X6_liftedBy i a (i 8)) a5 a6 (q8.trans e8)
    exact ⟨L, F + r, Z, u', a1, a2, r1, a4, u1, u2, (k 0 (by decide) (by decide)).trans (q0.trans e0), (k 1 (by decide) (by decide)).trans (q1.trans eS), (k 2 (by decide) (by decide)).trans (q2.trans e2), u3, hp, hs⟩
  unfold X6_turnOnce
  dsimp only
  repeat' split
  all_goals exact ⟨⟨r, by omega, r2⟩, key _ (by simp [upd]) (by simp [upd]) (by simp [upd]) (by simp [upd])⟩
/-! ===== pictures ===== -/
theorem lo_addz {z : Int32} {pg nu gu pr : Nat → Int32} {p0 p1 p2 p3 : Int32} {Z : Nat} (hZ : Z ≤ 80) (e : z = nI Z) : ∃ Z' : Nat, Z' ≤ 80 ∧ (X5_add z pg nu gu pr p0 p1 p2 p3).1 = nI Z' := by
  unfold X5_add
  dsimp only
  by_cases c : z < 80
  · rw [if_pos c]
    refine ⟨Z + 1, ?_, by rw [e]; exact nI_1 Z⟩
    have h1 := Int32.lt_iff_toInt_lt.mp c
    rw [e, nI_toInt (by omega), show (80 : Int32).toInt = 80 by decide] at h1
    omega
  · rw [if_neg c]; exact ⟨Z, hZ, e⟩
theorem lo_picW {i : Nat → Int32} {a : Nat → Nat → Int32} (h : lo_W i a) (p : Int32) : lo_W (X6_takePicture i a p).1 (X6_takePicture i a p).2 := by
  obtain ⟨L, F, Z, u, a1, a2, a3, a4, a5, a6, e0, e1, e2, e8, hp, hs⟩ := h
  have key : ∀ (x : (Int32) × (Nat → Int32) × (Nat → Int32) × (Nat → Int32) × (Nat → Int32)), (∃ Z' : Nat, Z' ≤ 80 ∧ x.1 = nI Z') → lo_W (upd i 2 x.1) (va_up (va_up (va_up (va_up a 3 x.2.1) 4 x.2.2.1) 5 x.2.2.2.1) 6 x.2.2.2.2) := by
    intro x hx
    obtain ⟨Z', z1, z2⟩ := hx
    exact ⟨L, F, Z', u, a1, a2, a3, z1, a5, a6, by simpa [upd] using e0, by simpa [upd] using e1, by simpa [upd] using z2, by simpa [upd] using e8, by simpa [va_up] using hp, by simpa [va_up] using hs⟩
  unfold X6_takePicture
  dsimp only
  repeat' split
  all_goals exact key _ (lo_addz a4 e2)
theorem lo_W.u3 {i : Nat → Int32} {a : Nat → Nat → Int32} (h : lo_W i a) (v : Int32) : lo_W (upd i 3 v) a := by
  obtain ⟨L, F, Z, u, a1, a2, a3, a4, a5, a6, e0, e1, e2, e8, hp, hs⟩ := h
  exact ⟨L, F, Z, u, a1, a2, a3, a4, a5, a6, by simpa [upd] using e0, by simpa [upd] using e1, by simpa [upd] using e2, by simpa [upd] using e8, hp, hs⟩
theorem lo_open2 (i : Nat → Int32) (a : Nat → Nat → Int32) : ∃ n : Nat, n ≤ 2 ∧ X6_pagesOpen i a = nI n := by
  unfold X6_pagesOpen
  dsimp only
  repeat' split
  · exact ⟨0, by omega, by decide⟩
  · exact ⟨1, by omega, by decide⟩
  · exact ⟨1, by omega, by decide⟩
  · exact ⟨2, by omega, by decide⟩
theorem lo_pairW {i : Nat → Int32} {a : Nat → Nat → Int32} (h : lo_W i a) : (∃ n : Nat, n ≤ 2 ∧ (X6_takePair i a).1 = nI n) ∧ lo_W (X6_takePair i a).2.1 (X6_takePair i a).2.2 := by
  have ho := lo_open2 i a
  unfold X6_takePair
  dsimp only
  by_cases c1 : X6_openOnLeft i a = (-5)
  · rw [if_pos c1]
    by_cases c2 : X6_openOnRight i a = (-5)
    · rw [if_pos c2]; exact ⟨ho, h.u3 _⟩
    · rw [if_neg c2]
      have h2 := lo_picW h (X6_openOnRight i a)
      generalize X6_takePicture i a (X6_openOnRight i a) = y at h2 ⊢
      exact ⟨ho, h2.u3 _⟩
  · rw [if_neg c1]
    have h1 := lo_picW h (X6_openOnLeft i a)
    generalize X6_takePicture i a (X6_openOnLeft i a) = x at h1 ⊢
    by_cases c2 : X6_openOnRight x.1 x.2 = (-5)
    · rw [if_pos c2]; exact ⟨ho, h1.u3 _⟩
    · rw [if_neg c2]
      have h2 := lo_picW h1 (X6_openOnRight x.1 x.2)
      generalize X6_takePicture x.1 x.2 (X6_openOnRight x.1 x.2) = y at h2 ⊢
      exact ⟨ho, h2.u3 _⟩
theorem lo_scanL {i : Nat → Int32} {a : Nat → Nat → Int32} (h : lo_W i a) (p : Int32) : ∀ (fu n : Nat) (v3 : Int32) (i0 : Nat → Int32) (a0 : Nat → Nat → Int32), lo_W i0 a0 → n + 2 * fu + 2 < 1000000 → (X6_takeAndTurn_L4 i a p fu (nI n) v3 i0 a0).1 = (-3) ∨ ((∃ n' : Nat, n' < 1000000 ∧ (X6_takeAndTurn_L4 i a p fu (nI n) v3 i0 a0).1 = nI n') ∧ lo_W (X6_takeAndTurn_L4 i a p fu (nI n) v3 i0 a0).2.1 (X6_takeAndTurn_L4 i a p fu (nI n) v3 i0 a0).2.2) := by
  intro fu
  induction fu with
  | zero => intro n v3 i0 a0 h0 hn; exact Or.inr ⟨⟨0, by omega, rfl⟩, h⟩
  | succ fu ih =>
    intro n v3 i0 a0 h0 hn
    obtain ⟨⟨m, m1, m2⟩, hw⟩ := lo_pairW h0
    have hend : (∃ n' : Nat, n' < 1000000 ∧ nI n + (X6_takePair i0 a0).1 = nI n') := ⟨n + m, by omega, by rw [m2, nI_add]⟩
    unfold X6_takeAndTurn_L4
    dsimp only
    by_cases c1 : p ≤ v3
    · rw [if_pos c1]
      by_cases c2 : X6_leavesOnRight i0 a0 ≤ 0
      · rw [if_pos c2]
        by_cases c3 : X6_hasRoomForPair i0 a0 = 0
        · rw [if_pos c3]; exact Or.inl rfl
        · rw [if_neg c3]; exact Or.inr ⟨hend, hw⟩
      · rw [if_neg c2]; exact Or.inr ⟨⟨n, by omega, rfl⟩, h0⟩
    · rw [if_neg c1]
      by_cases c2 : X6_leavesOnRight i0 a0 ≤ 0
      · rw [if_pos c2, if_pos c2]
        by_cases c3 : X6_hasRoomForPair i0 a0 = 0
        · rw [if_pos c3]; exact Or.inl rfl
        · rw [if_neg c3]; exact Or.inr ⟨hend, hw⟩
      · rw [if_neg c2]
        by_cases c3 : X6_hasRoomForPair i0 a0 = 0
        · rw [if_pos c3]; exact Or.inl rfl
        · rw [if_neg c3, m2, nI_add]
          exact ih (n + m) (v3 + 1) _ _ (lo_turnW hw).2 (by omega)
/-! ===== a book by a seed ===== -/
theorem lo_leafz {L : Nat} (hL : L < 30) {w st q : Nat → Int32} (hq : lo_pr q) (p0 p1 : Int32) : (X0_addLeaf (nI L) w st q p0 p1).1 = nI (L + 1) ∧ lo_pr (X0_addLeaf (nI L) w st q p0 p1).2.2.2 := by
  have c : nI L < 30 := nI_lt (b := 30) hL (by decide)
  have e : X0_addLeaf (nI L) w st q p0 p1 = (nI L + 1, X3_put 30 w (nI L) p0, X3_put 30 st (nI L) p1, X3_put 60 (X3_put 60 q (2 * nI L) ((2 * nI L) + 1)) ((2 * nI L) + 1) ((2 * nI L) + 2)) := if_pos c
  rw [e]
  have e2 : (2 : Int32) * nI L = nI (2 * L) := pk_mul 2 L
  refine ⟨nI_1 L, (hq.put _ _ (Or.inr ?_)).put _ _ (Or.inr ?_)⟩
  · rw [e2, nI_1]; exact nI_pos' (by omega)
  · rw [e2, show nI (2 * L) + 2 = nI (2 * L + 2) from nI_add _ 2]; exact nI_pos' (by omega)
theorem lo_noz {L : Int32} {w st q : Nat → Int32} (hq : lo_pr q) : lo_pr (X0_printNothingOnLast L w st q) := (hq.put _ _ (Or.inl rfl)).put _ _ (Or.inl rfl)
theorem lo_layL {L0 : Int32} {w0 st0 q0 : Nat → Int32} {p1 : Int32} {n : Nat} (hn : n ≤ 30) : ∀ (fu k S m : Nat) (w st q : Nat → Int32), k ≤ n → n - k < fu → k ≤ S → S ≤ 5 * k → m ≤ 9999 → lo_pr q → (∃ S' : Nat, n ≤ S' ∧ S' ≤ 5 * n ∧ (X0_layBySeed_L13 L0 w0 st0 q0 (nI n) p1 fu (nI m) (nI S) (nI k) (nI k) w st q).1 = nI S') ∧ (X0_layBySeed_L13 L0 w0 st0 q0 (nI n) p1 fu (nI m) (nI S) (nI k) (nI k) w st q).2.1 = nI n ∧ lo_pr (X0_layBySeed_L13 L0 w0 st0 q0 (nI n) p1 fu (nI m) (nI S) (nI k) (nI k) w st q).2.2.2.2 := by
  intro fu
  induction fu with
  | zero => intro k S m w st q _ h; omega
  | succ fu ih =>
    intro k S m w st q h1 h2 h3 h4 hm hq
    by_cases c : k = n
    · subst c
      have e : X0_layBySeed_L13 L0 w0 st0 q0 (nI k) p1 (fu + 1) (nI m) (nI S) (nI k) (nI k) w st q = (nI S, (nI k, w, st, q)) := if_pos (Int32.le_refl _)
      rw [e]
      exact ⟨⟨S, h3, h4, rfl⟩, rfl, hq⟩
    · have g : ¬ nI n ≤ nI k := nI_ge (by omega) (by omega)
      have x1 : ((421 * nI m) + 1663) - ((421 * nI m) + 1663) / 10000 * 10000 = nI ((421 * m + 1663) % 10000) := by
        rw [show (421 : Int32) * nI m = nI (421 * m) from pk_mul 421 m, show nI (421 * m) + 1663 = nI (421 * m + 1663) from nI_add _ 1663]
        exact pk_rem (d := 10000) (by omega) (by omega) (by omega)
      have hm' : (421 * m + 1663) % 10000 ≤ 9999 := by omega
      generalize (421 * m + 1663) % 10000 = m' at x1 hm'
      have x2 : 1 + (nI m' - nI m' / 5 * 5) = nI (1 + m' % 5) := by
        rw [show nI m' - nI m' / 5 * 5 = nI (m' % 5) from pk_rem (d := 5) (by omega) (by omega) (by omega)]
        exact nI_add 1 _
      have hS : nI S + (1 + (nI m' - nI m' / 5 * 5)) = nI (S + (1 + m' % 5)) := by rw [x2, nI_add]
      have hS2 : m' % 5 < 5 := Nat.mod_lt _ (by omega)
      unfold X0_layBySeed_L13
      dsimp only
      rw [if_neg g, x1, hS, nI_1]
      obtain ⟨b1, b2⟩ := lo_leafz (L := k) (by omega) (w := w) (st := st) hq (1 + (nI m' - nI m' / 5 * 5)) ((nI m' / 10) - (nI m' / 10) / 10 * 10)
      obtain ⟨d1, d2⟩ := lo_leafz (L := k) (by omega) (w := w) (st := st) hq (1 + (nI m' - nI m' / 5 * 5)) 0
      rw [b1, d1]
      split
      · split
        · exact ih (k + 1) _ m' _ _ _ (by omega) (by omega) (by omega) (by omega) hm' (lo_noz b2)
        · exact ih (k + 1) _ m' _ _ _ (by omega) (by omega) (by omega) (by omega) hm' b2
      · split
        · exact ih (k + 1) _ m' _ _ _ (by omega) (by omega) (by omega) (by omega) hm' (lo_noz d2)
        · exact ih (k + 1) _ m' _ _ _ (by omega) (by omega) (by omega) (by omega) hm' d2
/-! ===== an act: refused, and all is as it was; or recorded ===== -/
def lo_act (σ : lo_T) (X : Int32 × lo_T) : Prop :=
  (X.1 < 0 ∧ X.2.1 = σ.1 ∧ X.2.2.1 = σ.2.1 ∧ X.2.2.2.1 = σ.2.2.1 ∧ X.2.2.2.2.1 = σ.2.2.2.1 ∧ X.2.2.2.2.2.2.1 = σ.2.2.2.2.2.1) ∨
  (0 ≤ X.1 ∧ X.2.1 = σ.1 ∧ X.2.2.1 = X2_recz σ.2.1 ∧ X.2.2.2.1 = X2_recV σ.2.1 σ.2.2.1 σ.2.2.2.1.1 σ.2.2.2.1.2 ∧ lo_W X.2.2.2.2.1.1 X.2.2.2.2.1.2 ∧ X.2.2.2.2.2.2.1 = σ.2.2.2.2.2.1)
theorem lo_actN {σ : lo_T} {X : Int32 × lo_T} {v : Int32} (h : X = (v, σ)) (hv : v < 0) : lo_act σ X := by
  subst h
  exact Or.inl ⟨hv, rfl, rfl, rfl, rfl, rfl⟩
theorem lo_actY (σ : lo_T) {v : Int32} {B : Nat → Nat → Nat} {i : Nat → Int32} {a : Nat → Nat → Int32} {X : Int32 × (Int32 × (Nat → Nat → Nat) × (Nat → lt_SV) × (Nat → Int32) × (Nat → Nat → Int32))} (h : X = (v, (X2_recz σ.2.1, B, X2_recV σ.2.1 σ.2.2.1 σ.2.2.2.1.1 σ.2.2.2.1.2, i, a))) (hv : 0 ≤ v) (hW : lo_W i a) : lo_act σ (X.1, ((σ.1, X.2.1, X.2.2.2.1, (X.2.2.2.2.1, X.2.2.2.2.2), σ.2.2.2.2) : lo_T)) := by
  subst h
  exact Or.inr ⟨hv, rfl, rfl, rfl, hW, rfl⟩
theorem lo_nn {n : Nat} (h : n < 2147483648) : 0 ≤ nI n := nI_pos' h
theorem ac_turn {σ : lo_T} (h : lo_W σ.2.2.2.1.1 σ.2.2.2.1.2) : lo_act σ (lo_turn σ) := by
  by_cases c : X6_leavesOnRight σ.2.2.2.1.1 σ.2.2.2.1.2 = 0
  · exact lo_actN (lo_recE σ (-4) (if_pos c)) (by decide)
  · obtain ⟨⟨r, r1, r2⟩, hw⟩ := lo_turnW h
    exact lo_actY σ (if_neg c) (by rw [r2]; exact lo_nn (by omega)) hw
theorem ac_turnBack {σ : lo_T} (h : lo_W σ.2.2.2.1.1 σ.2.2.2.1.2) : lo_act σ (lo_turnBack σ) := by
  by_cases c : σ.2.2.2.1.1 1 = 0
  · exact lo_actN (lo_recE σ (-4) (if_pos c)) (by decide)
  · obtain ⟨L, F, Z, u, a1, a2, a3, a4, a5, a6, e0, e1, e2, e8, hp, hs⟩ := h
    have hF : F ≠ 0 := fun e => c (by rw [e1, e]; rfl)
    have eF : σ.2.2.2.1.1 1 - 1 = nI (F - 1) := by
      rw [e1]
      exact pk_sub (b := 1) (by omega)
    exact lo_actY σ (if_neg c) (by rw [eF]; exact lo_nn (by omega)) ⟨L, F - 1, Z, u, a1, a2, by omega, a4, a5, a6, by simpa [upd] using e0, by simpa [upd] using eF, by simpa [upd] using e2, by simpa [upd] using e8, hp, hs⟩
theorem ac_shoot {σ : lo_T} (h : lo_W σ.2.2.2.1.1 σ.2.2.2.1.2) : lo_act σ (lo_shoot σ) := by
  by_cases c : X6_hasBook σ.2.2.2.1.1 σ.2.2.2.1.2 = 0
  · exact lo_actN (lo_recE σ (-4) (if_pos c)) (by decide)
  · by_cases c2 : X6_hasRoomForPair σ.2.2.2.1.1 σ.2.2.2.1.2 = 0
    · exact lo_actN (lo_recE σ (-3) ((if_neg c).trans (if_pos c2))) (by decide)
    · obtain ⟨⟨n, n1, n2⟩, hw⟩ := lo_pairW h
      exact lo_actY σ ((if_neg c).trans (if_neg c2)) (by rw [n2]; exact lo_nn (by omega)) hw
theorem ac_setSuction {σ : lo_T} (h : lo_W σ.2.2.2.1.1 σ.2.2.2.1.2) (p0 : Int32) : lo_act σ (lo_setSuction σ p0) := by
  by_cases c : X7_isSuction p0 = 0
  · exact lo_actN (lo_recE σ (-2) (if_pos c)) (by decide)
  · by_cases c2 : σ.2.2.2.1.1 8 = p0
    · exact lo_actN (lo_recE σ (-5) ((if_neg c).trans (if_pos c2))) (by decide)
    · obtain ⟨L, F, Z, u, a1, a2, a3, a4, a5, a6, e0, e1, e2, e8, hp, hs⟩ := h
      have hp0 : ∃ u' : Nat, 1 ≤ u' ∧ u' ≤ 20 ∧ p0 = nI u' := by
        unfold X7_isSuction at c
        split at c
        · exact absurd rfl c
        · split at c
          · exact absurd rfl c
          · next g1 g2 =>
            have k1 := Int32.le_iff_toInt_le.mp (lt_nlt g1)
            have k2 := Int32.le_iff_toInt_le.mp (lt_nlt g2)
            rw [show (1 : Int32).toInt = 1 by decide] at k1
            rw [show (20 : Int32).toInt = 20 by decide] at k2
            refine ⟨p0.toInt.toNat, by omega, by omega, Int32.toInt_inj.mp ?_⟩
            rw [nI_toInt (by omega)]
            omega
      obtain ⟨u', u1, u2, u3⟩ := hp0
      exact lo_actY σ ((if_neg c).trans (if_neg c2)) (by rw [e8]; exact lo_nn (by omega)) ⟨L, F, Z, u', a1, a2, a3, a4, u1, u2, by simpa [upd] using e0, by simpa [upd] using e1, by simpa [upd] using e2, by simpa [upd] using u3, hp, hs⟩
theorem ac_throwAway {σ : lo_T} (h : lo_W σ.2.2.2.1.1 σ.2.2.2.1.2) (p0 : Int32) : lo_act σ (lo_throwAway σ p0) := by
  by_cases c : X5_has (σ.2.2.2.1.1 2) (σ.2.2.2.1.2 3) (σ.2.2.2.1.2 4) (σ.2.2.2.1.2 5) (σ.2.2.2.1.2 6) p0 = 0
  · exact lo_actN (lo_recE σ (-1) (if_pos c)) (by decide)
  · obtain ⟨L, F, Z, u, a1, a2, a3, a4, a5, a6, e0, e1, e2, e8, hp, hs⟩ := h
    have hZ : Z ≠ 0 := by
      intro e
      rw [e2, e] at c
      unfold X5_has at c
      split at c
      · exact absurd rfl c
      · split at c
        · exact absurd rfl c
        · next g1 g2 => exact g2 (lt_nlt g1)
    have eX : (X5_removeAt (σ.2.2.2.1.1 2) (σ.2.2.2.1.2 3) (σ.2.2.2.1.2 4) (σ.2.2.2.1.2 5) (σ.2.2.2.1.2 6) p0).1 = nI (Z - 1) := by
      have e : X5_removeAt (σ.2.2.2.1.1 2) (σ.2.2.2.1.2 3) (σ.2.2.2.1.2 4) (σ.2.2.2.1.2 5) (σ.2.2.2.1.2 6) p0 = _ := if_neg c
      rw [e]
      show σ.2.2.2.1.1 2 - 1 = nI (Z - 1)
      rw [e2]
      exact pk_sub (b := 1) (by omega)
    exact lo_actY σ (if_neg c) (by rw [eX]; exact lo_nn (by omega)) ⟨L, F, Z - 1, u, a1, a2, a3, by omega, a5, a6, by simpa [upd] using e0, by simpa [upd] using e1, by simpa [upd] using eX, by simpa [upd] using e8, by simpa [va_up] using hp, by simpa [va_up] using hs⟩
theorem ac_layBook {σ : lo_T} (h : lo_W σ.2.2.2.1.1 σ.2.2.2.1.2) (p0 p1 : Int32) : lo_act σ (lo_layBook σ p0 p1) := by
  by_cases c1 : p0 < 1
  · exact lo_actN (ra_lay1 σ c1) (by decide)
  · by_cases c2 : 30 < p0
    · exact lo_actN (ra_lay2 σ c1 c2) (by decide)
    · by_cases c3 : p1 < 0
      · exact lo_actN (ra_lay3 σ c1 c2 c3) (by decide)
      · by_cases c4 : p1 ≤ 9999
        · obtain ⟨L, F, Z, u, a1, a2, a3, a4, a5, a6, e0, e1, e2, e8, hp, hs⟩ := h
          obtain ⟨n, n1, n2⟩ := nI_of2 (M := 30) (n := 30) (by decide) (fun q => c1 (Int32.lt_trans q (by decide))) (lt_nlt c2)
          obtain ⟨m, m1, m2⟩ := nI_of2 (M := 9999) (n := 9999) (by decide) c3 c4
          have hn1 : 1 ≤ n := by
            have k1 := Int32.le_iff_toInt_le.mp (lt_nlt c1)
            rw [n2, nI_toInt (by omega), show (1 : Int32).toInt = 1 by decide] at k1
            omega
          have hf : n - 0 < ((p0 : Int32).toInt - (0 : Int32).toInt).toNat + 1 := by
            rw [n2, nI_toInt (by omega), show (0 : Int32).toInt = 0 by decide]
            omega
          obtain ⟨⟨S, s1, s2, s3⟩, l2, l3⟩ := lo_layL (L0 := X6_clearForBook σ.2.2.2.1.1 σ.2.2.2.1.2 0) (w0 := σ.2.2.2.1.2 0) (st0 := σ.2.2.2.1.2 1) (q0 := σ.2.2.2.1.2 2) (p1 := p1) n1 (((p0 : Int32).toInt - (0 : Int32).toInt).toNat + 1) 0 0 m (σ.2.2.2.1.2 0) (σ.2.2.2.1.2 1) (σ.2.2.2.1.2 2) (Nat.zero_le _) hf (Nat.le_refl _) (Nat.le_refl _) m1 hp
          have eX : X0_layBySeed_L13 (X6_clearForBook σ.2.2.2.1.1 σ.2.2.2.1.2 0) (σ.2.2.2.1.2 0) (σ.2.2.2.1.2 1) (σ.2.2.2.1.2 2) (nI n) p1 (((p0 : Int32).toInt - (0 : Int32).toInt).toNat + 1) (nI m) (nI 0) (nI 0) (nI 0) (σ.2.2.2.1.2 0) (σ.2.2.2.1.2 1) (σ.2.2.2.1.2 2) = X0_layBySeed (X6_clearForBook σ.2.2.2.1.1 σ.2.2.2.1.2 0) (σ.2.2.2.1.2 0) (σ.2.2.2.1.2 1) (σ.2.2.2.1.2 2) p0 p1 := by
            rw [← n2, ← m2]; rfl
          rw [eX] at s3 l2 l3
          refine lo_actY σ ((if_neg c1).trans ((if_neg c2).trans ((if_neg c3).trans (if_pos c4)))) (by rw [s3]; exact lo_nn (by omega)) ?_
          exact ⟨n, 0, 0, u, hn1, n1, by omega, by omega, a5, a6, by simpa [upd] using l2, by simp [upd, X6_clearForBook]; rfl, by simp [upd, X6_clearForBook]; rfl, by simpa [upd, X6_clearForBook] using e8, by simpa [va_up] using l3, by simpa [va_up] using hs⟩
        · exact lo_actN (ra_lay4 σ c1 c2 c3 c4) (by decide)
theorem ac_print {σ : lo_T} (h : lo_W σ.2.2.2.1.1 σ.2.2.2.1.2) (p0 p1 : Int32) : lo_act σ (lo_print σ p0 p1) := by
  have hW : p1 = (-5) ∨ 0 ≤ p1 → lo_W σ.2.2.2.1.1 (va_up σ.2.2.2.1.2 2 (X3_put 60 (σ.2.2.2.1.2 2) p0 p1)) := by
    intro hv
    obtain ⟨L, F, Z, u, a1, a2, a3, a4, a5, a6, e0, e1, e2, e8, hp, hs⟩ := h
    exact ⟨L, F, Z, u, a1, a2, a3, a4, a5, a6, e0, e1, e2, e8, by simpa [va_up] using hp.put p0 p1 hv, by simpa [va_up] using hs⟩
  have hr : X3_at 60 (σ.2.2.2.1.2 2) p0 = (-5) ∨ 0 ≤ X3_at 60 (σ.2.2.2.1.2 2) p0 := by
    obtain ⟨L, F, Z, u, a1, a2, a3, a4, a5, a6, e0, e1, e2, e8, hp, hs⟩ := h
    exact hp.at p0
  by_cases c1 : X0_hasPage (σ.2.2.2.1.1 0) (σ.2.2.2.1.2 0) (σ.2.2.2.1.2 1) (σ.2.2.2.1.2 2) p0 = 0
  · exact lo_actN (ra_print1 σ c1) (by decide)
  · by_cases c2 : p1 = (-5)
    · by_cases c3 : X3_at 60 (σ.2.2.2.1.2 2) p0 = p1
      · exact lo_actN (lo_recE σ (-5) ((if_neg c1).trans ((if_pos c2).trans (if_pos c3)))) (by decide)
      · by_cases c4 : X3_at 60 (σ.2.2.2.1.2 2) p0 = (-5)
        · exact lo_actY σ ((if_neg c1).trans ((if_pos c2).trans ((if_neg c3).trans (if_pos c4)))) (by decide) (hW (Or.inl c2))
        · exact lo_actY σ ((if_neg c1).trans ((if_pos c2).trans ((if_neg c3).trans (if_neg c4)))) (hr.resolve_left c4) (hW (Or.inl c2))
    · by_cases c5 : p1 < 0
      · exact lo_actN (lo_recE σ (-2) ((if_neg c1).trans ((if_neg c2).trans (if_pos c5)))) (by decide)
      · by_cases c6 : p1 ≤ 199
        · by_cases c3 : X3_at 60 (σ.2.2.2.1.2 2) p0 = p1
          · exact lo_actN (lo_recE σ (-5) ((if_neg c1).trans ((if_neg c2).trans ((if_neg c5).trans ((if_pos c6).trans (if_pos c3)))))) (by decide)
          · by_cases c4 : X3_at 60 (σ.2.2.2.1.2 2) p0 = (-5)
            · exact lo_actY σ ((if_neg c1).trans ((if_neg c2).trans ((if_neg c5).trans ((if_pos c6).trans ((if_neg c3).trans (if_pos c4)))))) (by decide) (hW (Or.inr (lt_nlt c5)))
            · exact lo_actY σ ((if_neg c1).trans ((if_neg c2).trans ((if_neg c5).trans ((if_pos c6).trans ((if_neg c3).trans (if_neg c4)))))) (hr.resolve_left c4) (hW (Or.inr (lt_nlt c5)))
        · exact lo_actN (lo_recE σ (-2) ((if_neg c1).trans ((if_neg c2).trans ((if_neg c5).trans (if_neg c6))))) (by decide)
theorem ac_set {σ : lo_T} (h : lo_W σ.2.2.2.1.1 σ.2.2.2.1.2) (p0 p1 : Int32) : lo_act σ (lo_set σ p0 p1) := by
  by_cases c1 : p0 < 0
  · exact lo_actN (ra_set1 σ c1) (by decide)
  · by_cases c2 : p0 < 3
    · by_cases c3 : p1 < 0
      · exact lo_actN (ra_set3 σ c1 c2 c3) (by decide)
      · by_cases c4 : p1 ≤ lt_most p0.toNatClampNeg
        · by_cases c5 : X3_at 3 (σ.2.2.2.1.2 7) p0 = p1
          · exact lo_actN (lo_recE σ (-5) ((if_neg c1).trans ((if_pos c2).trans ((if_neg c3).trans ((if_pos c4).trans (if_pos c5)))))) (by decide)
          · obtain ⟨L, F, Z, u, a1, a2, a3, a4, a5, a6, e0, e1, e2, e8, hp, hs⟩ := h
            have hh : ¬ X3_has 3 (σ.2.2.2.1.2 7) p0 = 0 := by
              have e : X3_has 3 (σ.2.2.2.1.2 7) p0 = 1 := (if_neg c1).trans (if_neg (Int32.not_le.mpr c2))
              rw [e]; decide
            have h1 := lo_vin (lt_has (by decide) hh)
            have eA : X3_at 3 (σ.2.2.2.1.2 7) p0 = σ.2.2.2.1.2 7 p0.toNatClampNeg := if_neg hh
            have eP : X3_put 3 (σ.2.2.2.1.2 7) p0 p1 = upd (σ.2.2.2.1.2 7) p0.toNatClampNeg p1 := if_neg hh
            have hs2 : ∀ j : Nat, j < 3 → 0 ≤ X3_put 3 (σ.2.2.2.1.2 7) p0 p1 j := by
              intro j hj
              rw [eP]
              by_cases y : j = p0.toNatClampNeg
              · subst y; rw [pk_us]; exact lt_nlt c3
              · rw [pk_un y]; exact hs j hj
            exact lo_actY σ ((if_neg c1).trans ((if_pos c2).trans ((if_neg c3).trans ((if_pos c4).trans (if_neg c5))))) (by rw [eA]; exact hs _ (by omega)) ⟨L, F, Z, u, a1, a2, a3, a4, a5, a6, e0, e1, e2, e8, by simpa [va_up] using hp, by simpa [va_up] using hs2⟩
        · exact lo_actN (ra_set4 σ c1 c2 c3 c4) (by decide)
    · exact lo_actN (ra_set2 σ c1 c2) (by decide)
theorem ac_restore {σ : lo_T} (hs : ¬ σ.1 = 0) (hk : lo_W σ.2.2.2.2.2.1.1 σ.2.2.2.2.2.1.2) : lo_act σ (lo_restore σ) := by
  obtain ⟨L, F, Z, u, a1, a2, a3, a4, a5, a6, e0, e1, e2, e8, hp, hss⟩ := id hk
  exact lo_actY σ (if_neg hs) (by rw [e2]; exact lo_nn (by omega)) hk
theorem ac_scan {σ : lo_T} (h : lo_W σ.2.2.2.1.1 σ.2.2.2.1.2) (p0 : Int32) : lo_act σ (lo_scan σ p0) := by
  by_cases c1 : p0 < 1
  · exact lo_actN (ra_scan1 σ c1) (by decide)
  · by_cases c2 : p0 ≤ 60
    · by_cases c3 : X6_hasBook σ.2.2.2.1.1 σ.2.2.2.1.2 = 0
      · exact lo_actN (lo_recE2 σ (-4) ((if_neg c1).trans ((if_pos c2).trans (if_pos c3)))) (by decide)
      · have hf : 0 + 2 * (((p0 : Int32).toInt - (0 : Int32).toInt).toNat + 1) + 2 < 1000000 := by
          have k2 := Int32.le_iff_toInt_le.mp c2
          rw [show (60 : Int32).toInt = 60 by decide] at k2
          rw [show (0 : Int32).toInt = 0 by decide]
          omega
        have hx : (X6_takeAndTurn σ.2.2.2.1.1 σ.2.2.2.1.2 p0).1 = (-3) ∨ ((∃ n' : Nat, n' < 1000000 ∧ (X6_takeAndTurn σ.2.2.2.1.1 σ.2.2.2.1.2 p0).1 = nI n') ∧ lo_W (X6_takeAndTurn σ.2.2.2.1.1 σ.2.2.2.1.2 p0).2.1 (X6_takeAndTurn σ.2.2.2.1.1 σ.2.2.2.1.2 p0).2.2) := lo_scanL h p0 (((p0 : Int32).toInt - (0 : Int32).toInt).toNat + 1) 0 0 _ _ h hf
        by_cases c4 : (X6_takeAndTurn σ.2.2.2.1.1 σ.2.2.2.1.2 p0).1 = (-3)
        · have e : X7_scan σ.1 σ.2.1 lo_zB σ.2.2.1 σ.2.2.2.1.1 σ.2.2.2.1.2 σ.2.2.2.2.1.1 σ.2.2.2.2.1.2 p0 = ((-3), (σ.2.1, lo_zB, σ.2.2.1, σ.2.2.2.1.1, σ.2.2.2.1.2, (X6_takeAndTurn σ.2.2.2.1.1 σ.2.2.2.1.2 p0).2.1, (X6_takeAndTurn σ.2.2.2.1.1 σ.2.2.2.1.2 p0).2.2)) := (if_neg c1).trans ((if_pos c2).trans ((if_neg c3).trans (if_pos c4)))
          unfold lo_scan
          dsimp only
          rw [e]
          exact Or.inl ⟨show (-3 : Int32) < 0 by decide, rfl, rfl, rfl, rfl, rfl⟩
        · obtain ⟨⟨n, n1, n2⟩, hw⟩ := hx.resolve_left c4
          have e : X7_scan σ.1 σ.2.1 lo_zB σ.2.2.1 σ.2.2.2.1.1 σ.2.2.2.1.2 σ.2.2.2.2.1.1 σ.2.2.2.2.1.2 p0 = ((X6_takeAndTurn σ.2.2.2.1.1 σ.2.2.2.1.2 p0).1, (X2_recz σ.2.1, X2_recB σ.2.1 lo_zB, X2_recV σ.2.1 σ.2.2.1 σ.2.2.2.1.1 σ.2.2.2.1.2, (X6_takeAndTurn σ.2.2.2.1.1 σ.2.2.2.1.2 p0).2.1, (X6_takeAndTurn σ.2.2.2.1.1 σ.2.2.2.1.2 p0).2.2, (X6_takeAndTurn σ.2.2.2.1.1 σ.2.2.2.1.2 p0).2.1, (X6_takeAndTurn σ.2.2.2.1.1 σ.2.2.2.1.2 p0).2.2)) := (if_neg c1).trans ((if_pos c2).trans ((if_neg c3).trans (if_neg c4)))
          unfold lo_scan
          dsimp only
          rw [e]
          exact Or.inr ⟨by rw [n2]; exact lo_nn (by omega), rfl, rfl, rfl, hw, rfl⟩
    · exact lo_actN (ra_scan2 σ c1 c2) (by decide)
