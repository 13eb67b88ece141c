/-! ===== learning ===== -/
def lr_q (t q : Nat) : Nat := if t = 1 then (if q = 4 then 0 else q + 1) else 0
def lr_x (t q u : Nat) : Nat := if t = 0 then u + 2 else if t = 1 then (if q = 4 then u - 1 else u) else u + 1
def lr_u (t q u : Nat) : Nat := max 1 (min 20 (lr_x t q u))
theorem lq_u78 {f : Nat → Int32} {A B A' B' : Int32} {k : Nat} (hA : A = A') (hB : B = B') : upd (upd f 7 A) 8 B k = if k = 7 then A' else if k = 8 then B' else f k := by
  subst hA; subst hB
  unfold upd
  by_cases h7 : k = 7
  · subst h7; rfl
  · by_cases h8 : k = 8
    · subst h8; rfl
    · simp [h7, h8]
theorem lq_u7 {f : Nat → Int32} {A A' C : Int32} {k : Nat} (hA : A = A') (hC : f 8 = C) : upd f 7 A k = if k = 7 then A' else if k = 8 then C else f k := by
  subst hA; subst hC
  unfold upd
  by_cases h7 : k = 7
  · subst h7; rfl
  · by_cases h8 : k = 8
    · subst h8; rfl
    · simp [h7, h8]
theorem lq_v78 {f : Nat → Int32} {A B A' B' X : Int32} {k : Nat} (hA : A = A') (hB : B = B') : upd (upd (upd f 7 X) 7 A) 8 B k = if k = 7 then A' else if k = 8 then B' else f k := by
  subst hA; subst hB
  unfold upd
  by_cases h7 : k = 7
  · subst h7; rfl
  · by_cases h8 : k = 8
    · subst h8; rfl
    · simp [h7, h8]
theorem lq_v7 {f : Nat → Int32} {A A' C X : Int32} {k : Nat} (hA : A = A') (hC : f 8 = C) : upd (upd f 7 X) 7 A k = if k = 7 then A' else if k = 8 then C else f k := by
  subst hA; subst hC
  unfold upd
  by_cases h7 : k = 7
  · subst h7; rfl
  · by_cases h8 : k = 8
    · subst h8; rfl
    · simp [h7, h8]
/-- the class's clip of a number -/
theorem lq_clipC {x : Nat} (hx : x < 1000) : (if (1 : Int32) < (if nI x < 20 then nI x else 20) then (if nI x < 20 then nI x else 20) else 1) = nI (max 1 (min 20 x)) := by
  by_cases h : x < 20
  · have h1 : nI x < 20 := nI_lt (b := 20) h (by decide)
    rw [if_pos h1]
    by_cases h2 : 1 < x
    · rw [if_pos (show (1 : Int32) < nI x from nI_lt (a := 1) h2 (by omega))]; congr 1; omega
    · rw [if_neg (show ¬ (1 : Int32) < nI x from nI_nlt (a := 1) (b := x) (by omega) (by decide))]
      show nI 1 = _
      congr 1; omega
  · have h1 : ¬ nI x < 20 := nI_nlt (a := x) (b := 20) (by omega) (by omega)
    rw [if_neg h1, if_pos (by decide)]
    show nI 20 = _
    congr 1; omega
theorem lq_learnC {i : Nat → Int32} {a : Nat → Nat → Int32} {q u t : Nat} (hq : q ≤ 4) (hu1 : 1 ≤ u) (hu : u ≤ 20) (ht : t ≤ 30) (h7 : i 7 = nI q) (h8 : i 8 = nI u) (k : Nat) :
    X6_learnFrom i a (nI t) k = if k = 7 then nI (lr_q t q) else if k = 8 then (if a 7 1 = 1 then nI (lr_u t q u) else nI u) else i k := by
  have r5 : X3_at 3 (a 7) 1 = a 7 1 := lq_at (k := 1) (by decide) (by decide)
  have s5 : i 7 + 1 = nI (q + 1) := by rw [h7, nI_1]
  unfold X6_learnFrom
  by_cases t0 : t = 0
  · subst t0
    have d0 : (nI 0 = (0 : Int32)) := rfl
    have d1 : ¬ (nI 0 = (1 : Int32)) := by decide
    rw [if_pos d0, if_neg d1]
    dsimp only
    rw [r5]
    have x : i 8 + 2 = nI (u + 2) := by rw [h8]; exact nI_add u 2
    by_cases b : a 7 1 = 1
    · rw [if_pos b, if_pos b, x]
      exact lq_u78 rfl (lq_clipC (by omega))
    · rw [if_neg b, if_neg b]
      exact lq_u7 rfl h8
  · have d0 : ¬ (nI t = (0 : Int32)) := nI_ne0 (by omega) (by omega)
    rw [if_neg d0]
    by_cases t1 : t = 1
    · subst t1
      have d1 : nI 1 = (1 : Int32) := rfl
      rw [if_pos d1, s5]
      by_cases q4 : q = 4
      · subst q4
        have d4 : nI (4 + 1) = (5 : Int32) := rfl
        rw [if_pos d4]
        dsimp only
        rw [r5]
        have x : i 8 + (-1) = nI (u - 1) := by
          rw [h8]
          obtain ⟨v, rfl⟩ : ∃ v, u = v + 1 := ⟨u - 1, by omega⟩
          exact pk_m1 v
        by_cases b : a 7 1 = 1
        · rw [if_pos b, if_pos b, x]
          exact lq_u78 rfl (lq_clipC (by omega))
        · rw [if_neg b, if_neg b]
          exact lq_u7 rfl h8
      · have d4 : ¬ nI (q + 1) = (5 : Int32) := fun z => q4 (by have := (nI_eq (a := q + 1) (b := 5) (by omega) (by decide)).mp z; omega)
        have e4 : lr_q 1 q = q + 1 := by unfold lr_q; rw [if_pos rfl, if_neg q4]
        have e5 : lr_u 1 q u = max 1 (min 20 u) := by unfold lr_u lr_x; rw [if_neg (by decide), if_pos rfl, if_neg q4]
        rw [if_neg d4, e4, e5]
        dsimp only
        rw [r5]
        have x : i 8 + 0 = nI u := by rw [h8]; exact nI_add u 0
        by_cases b : a 7 1 = 1
        · rw [if_pos b, if_pos b, x]
          exact lq_u78 rfl (lq_clipC (by omega))
        · rw [if_neg b, if_neg b]
          exact lq_u7 rfl h8
    · have d1 : ¬ nI t = (1 : Int32) := fun z => t1 ((nI_eq (a := t) (b := 1) (by omega) (by decide)).mp z)
      have e4 : lr_q t q = 0 := by unfold lr_q; rw [if_neg t1]
      have e5 : lr_u t q u = max 1 (min 20 (u + 1)) := by unfold lr_u lr_x; rw [if_neg t0, if_neg t1]
      rw [if_neg d1, e4, e5]
      dsimp only
      rw [r5]
      have x : i 8 + 1 = nI (u + 1) := by rw [h8]; exact nI_1 u
      by_cases b : a 7 1 = 1
      · rw [if_pos b, if_pos b, x]
        exact lq_u78 rfl (lq_clipC (by omega))
      · rw [if_neg b, if_neg b]
        exact lq_u7 rfl h8
theorem lq_learnR {f : Nat → Int32} {q u t : Nat} (hq : q ≤ 4) (hu1 : 1 ≤ u) (hu : u ≤ 20) (ht : t ≤ 30) (h7 : f 7 = nI q) (h8 : f 8 = nI u) (k : Nat) :
    X8_learns f (nI t) k = if k = 7 then nI (lr_q t q) else if k = 8 then (if f 10 = 1 then nI (lr_u t q u) else nI u) else f k := by
  have s5 : f 7 + 1 = nI (q + 1) := by rw [h7, nI_1]
  have z5 : (0 : Int32) - 0 / 5 * 5 = nI 0 := by decide
  have clip : ∀ (g : Nat → Int32) (x y : Nat) (A : Int32), x < 1000 → max 1 (min 20 x) = y → A = nI (lr_q t q) → (∀ X B, B = nI y → upd (upd (upd f 7 X) 7 A) 8 B k = if k = 7 then nI (lr_q t q) else if k = 8 then nI y else f k) := by
    intro g x y A _ _ hA X B hB
    exact lq_v78 hA hB
  have cl : ∀ (x y : Nat) (X A : Int32), x < 1000 → max 1 (min 20 x) = y → A = nI (lr_q t q) → (if 1 ≤ nI x then (if nI x ≤ 20 then upd (upd (upd f 7 X) 7 A) 8 (nI x) else upd (upd (upd f 7 X) 7 A) 8 20) else upd (upd (upd f 7 X) 7 A) 8 1) k = if k = 7 then nI (lr_q t q) else if k = 8 then nI y else f k := by
    intro x y X A hx hy hA
    by_cases c1 : 1 ≤ x
    · rw [if_pos (show (1 : Int32) ≤ nI x from nI_le (a := 1) c1 (by omega))]
      by_cases c2 : x ≤ 20
      · rw [if_pos (show nI x ≤ (20 : Int32) from nI_le (b := 20) c2 (by decide))]
        exact lq_v78 hA (by congr 1; omega)
      · rw [if_neg (show ¬ nI x ≤ (20 : Int32) from nI_ge (a := 20) (by omega) (by omega))]
        exact lq_v78 hA (by show nI 20 = nI y; congr 1; omega)
    · rw [if_neg (show ¬ (1 : Int32) ≤ nI x from nI_ge (b := 1) (by omega) (by decide))]
      exact lq_v78 hA (by show nI 1 = nI y; congr 1; omega)
  unfold X8_learns
  by_cases t1 : t = 1
  · subst t1
    have d1 : nI 1 = (1 : Int32) := rfl
    have d0 : ¬ nI 1 = (0 : Int32) := by decide
    have dl : nI 1 ≤ (1 : Int32) := by decide
    have rm : nI (q + 1) - nI (q + 1) / 5 * 5 = nI (lr_q 1 q) := by
      rw [show (5 : Int32) = nI 5 from rfl, pk_rem (by omega) (by decide) (by decide)]
      unfold lr_q
      rw [if_pos rfl]
      by_cases q4 : q = 4
      · subst q4; rfl
      · rw [if_neg q4]; congr 1; omega
    rw [if_pos d1, if_neg d0, if_pos dl, s5]
    by_cases q4 : q = 4
    · subst q4
      have d4 : nI (4 + 1) = (5 : Int32) := rfl
      have x : f 8 + (-1) = nI (u - 1) := by
        rw [h8]
        obtain ⟨v, rfl⟩ : ∃ v, u = v + 1 := ⟨u - 1, by omega⟩
        exact pk_m1 v
      rw [if_pos d4]
      by_cases b : f 10 = 1
      · rw [if_pos b, if_pos b, x]
        exact cl _ _ _ _ (by omega) rfl rm
      · rw [if_neg b, if_neg b]
        exact lq_v7 rm h8
    · have d4 : ¬ nI (q + 1) = (5 : Int32) := fun z => q4 (by have := (nI_eq (a := q + 1) (b := 5) (by omega) (by decide)).mp z; omega)
      have e5 : lr_u 1 q u = max 1 (min 20 u) := by unfold lr_u lr_x; rw [if_neg (by decide), if_pos rfl, if_neg q4]
      have x : f 8 + 0 = nI u := by rw [h8]; exact nI_add u 0
      rw [if_neg d4, e5]
      by_cases b : f 10 = 1
      · rw [if_pos b, if_pos b, x]
        exact cl _ _ _ _ (by omega) rfl rm
      · rw [if_neg b, if_neg b]
        exact lq_v7 rm h8
  · have d1 : ¬ nI t = (1 : Int32) := fun z => t1 ((nI_eq (a := t) (b := 1) (by omega) (by decide)).mp z)
    have e4 : lr_q t q = 0 := by unfold lr_q; rw [if_neg t1]
    rw [if_neg d1]
    by_cases t0 : t = 0
    · subst t0
      have d0 : nI 0 = (0 : Int32) := rfl
      have x : f 8 + 2 = nI (u + 2) := by rw [h8]; exact nI_add u 2
      rw [if_pos d0]
      by_cases b : f 10 = 1
      · rw [if_pos b, if_pos b, x]
        exact cl _ _ _ _ (by omega) rfl (by rw [z5, e4])
      · rw [if_neg b, if_neg b]
        exact lq_v7 (by rw [z5, e4]) h8
    · have d0 : ¬ (nI t = (0 : Int32)) := nI_ne0 (by omega) (by omega)
      have dl : ¬ nI t ≤ (1 : Int32) := nI_ge (a := 1) (by omega) (by omega)
      have e5 : lr_u t q u = max 1 (min 20 (u + 1)) := by unfold lr_u lr_x; rw [if_neg t0, if_neg t1]
      have x : f 8 + 1 = nI (u + 1) := by rw [h8]; exact nI_1 u
      rw [if_neg d0, if_neg dl, e5]
      by_cases b : f 10 = 1
      · rw [if_pos b, if_pos b, x]
        exact cl _ _ _ _ (by omega) rfl (by rw [z5, e4])
      · rw [if_neg b, if_neg b]
        exact lq_v7 (by rw [z5, e4]) h8
theorem lq_learnS {f : Nat → Int32} {p : Int32} : S_X8_learns f p := by
  unfold S_X8_learns
  repeat' first | exact trivial | apply And.intro | intro _
theorem lr_q_le {t q : Nat} (h : q ≤ 4) : lr_q t q ≤ 4 := by
  unfold lr_q
  split
  · split <;> omega
  · omega
theorem lr_u_in {t q u : Nat} : 1 ≤ lr_u t q u ∧ lr_u t q u ≤ 20 := by unfold lr_u; omega
/-- what a row must keep to be as good as another -/
theorem WF.to {L F F' Z : Nat} {f g : Nat → Int32} (h : WF L F Z f) (hF : F' ≤ L) (h0 : g 0 = f 0) (h1 : g 1 = nI F') (h2 : g 2 = f 2)
    (hs : ∃ q u : Nat, q ≤ 4 ∧ 1 ≤ u ∧ u ≤ 20 ∧ g 7 = nI q ∧ g 8 = nI u) (hk : ∀ k, 9 ≤ k → g k = f k) : WF L F' Z g := by
  obtain ⟨a1, a2, a3, a4, a5, a6, ⟨q, s, u, o, b1, b2, b3, b4, b5, b6, b7, b8, b9, b10⟩, a8⟩ := h
  obtain ⟨q', u', c1, c2, c3, c4, c5⟩ := hs
  refine ⟨a1, hF, a3, h0.trans a4, h1, h2.trans a6, ⟨q', s, u', o, c1, b2, c2, c3, b5, c4, (hk 9 (by omega)).trans b7, c5, (hk 11 (by omega)).trans b9, ?_⟩, fun k hkz => ?_⟩
  · rw [hk 10 (by omega)]; exact b10
  · rw [hk (134 + 5 * k) (by omega), hk (132 + 5 * k) (by omega), hk (136 + 5 * k) (by omega)]
    exact a8 k hkz
theorem lq_turnG {L F Z t : Nat} {i I : Nat → Int32} {a : Nat → Nat → Int32} {f J : Nat → Int32} (h : RS L F Z i a f) (ht : F + t ≤ L) (h1 : I 1 = nI (F + t)) (hIJ : ∀ k, k < 9 → I k = J k)
    (hJ : ∀ k, (9 ≤ k ∨ k = 0 ∨ k = 2 ∨ k = 7 ∨ k = 8) → J k = f k) : RS L (F + t) Z (X6_learnFrom I a (nI t)) a (X8_learns J (nI t)) := by
  obtain ⟨hW, hA⟩ := h
  have hW0 := hW
  obtain ⟨a1, a2, a3, a4, a5, a6, ⟨q, s, u, o, b1, b2, b3, b4, b5, b6, b7, b8, b9, b10⟩, a8⟩ := hW0
  have j7 : J 7 = nI q := (hJ 7 (by omega)).trans b6
  have j8 : J 8 = nI u := (hJ 8 (by omega)).trans b8
  have hC := fun k => lq_learnC (i := I) (a := a) (t := t) b1 b3 b4 (by omega) ((hIJ 7 (by omega)).trans j7) ((hIJ 8 (by omega)).trans j8) k
  have hR := fun k => lq_learnR (f := J) (t := t) b1 b3 b4 (by omega) j7 j8 k
  have e10 : a 7 1 = J 10 := (hA.2.1 1 (by omega)).trans (hJ 10 (by omega)).symm
  have hk9 : ∀ k, 9 ≤ k → X8_learns J (nI t) k = f k := fun k hk => by
    rw [hR, if_neg (by omega), if_neg (by omega)]
    exact hJ k (Or.inl hk)
  refine ⟨hW.to ht ?_ ?_ ?_ ?_ hk9, ⟨fun k hk => ?_, fun k hk => ?_, fun k hk => ?_, fun k hk => ?_, fun k hk => ?_⟩⟩
  · rw [hR, if_neg (by decide), if_neg (by decide)]; exact hJ 0 (by omega)
  · rw [hR, if_neg (by decide), if_neg (by decide), ← hIJ 1 (by omega)]; exact h1
  · rw [hR, if_neg (by decide), if_neg (by decide)]; exact hJ 2 (by omega)
  · refine ⟨lr_q t q, if J 10 = 1 then lr_u t q u else u, lr_q_le b1, ?_, ?_, ?_, ?_⟩
    · split
      · exact lr_u_in.1
      · exact b3
    · split
      · exact lr_u_in.2
      · exact b4
    · rw [hR, if_pos rfl]
    · rw [hR, if_neg (by decide), if_pos rfl]
      split <;> rfl
  · rw [hC, hR, e10]
    by_cases c7 : k = 7
    · rw [if_pos c7, if_pos c7]
    · rw [if_neg c7, if_neg c7]
      by_cases c8 : k = 8
      · rw [if_pos c8, if_pos c8]
      · rw [if_neg c8, if_neg c8]; exact hIJ k hk
  · rw [hk9 _ (by omega)]; exact hA.2.1 k hk
  · rw [hk9 _ (by omega), hk9 _ (by omega)]; exact hA.2.2.1 k hk
  · rw [hk9 _ (by omega)]; exact hA.2.2.2.1 k hk
  · rw [hk9 _ (by omega), hk9 _ (by omega), hk9 _ (by omega), hk9 _ (by omega)]; exact hA.2.2.2.2 k hk
theorem lq_S1 {P Q : Prop} {r : Int32} {x : Int32} (hP : P) (h : ∀ z, z = x → Q) : P ∧ ∀ z, z = x → Q := ⟨hP, h⟩
theorem lq_turn {L F Z : Nat} {i : Nat → Int32} {a : Nat → Nat → Int32} {f : Nat → Int32} (h : RS L F Z i a f) (hF : F < L) :
    S_X8_turns f ∧ ∃ t : Nat, F + t ≤ L ∧ (X6_turnOnce i a).1 = nI t ∧ (X8_turns f).1 = nI t ∧ RS L (F + t) Z (X6_turnOnce i a).2 a (X8_turns f).2 := by
  have hL := h.1.1
  have h8 : i 8 = f 8 := h.i 8 (by decide)
  obtain ⟨e1, e2, t, ht, e3⟩ := lq_lift h hF (i 8)
  rw [h8] at e1 e2 e3
  have e4 : X8_wouldTurn f (f 8) = nI t := e1.symm.trans e3
  have hS : S_X8_turns f := by
    refine ⟨e2, fun r hr => ⟨fun _ => ⟨fun _ => ⟨lq_learnS, fun _ _ => trivial⟩, fun _ => ⟨lq_learnS, fun _ _ => trivial⟩⟩, fun _ => ⟨fun _ => ⟨lq_learnS, fun _ _ => trivial⟩, fun _ => ⟨lq_learnS, fun _ _ => trivial⟩⟩⟩⟩
  refine ⟨hS, t, ht, ?_⟩
  have s1 : i 1 + nI t = nI (F + t) := by rw [h.f, nI_add]
  have hi := h.i
  by_cases t0 : t = 0
  · subst t0
    have d0 : nI 0 = (0 : Int32) := rfl
    have dl : nI 0 ≤ (1 : Int32) := by decide
    have g1 : X6_turnOnce i a = (nI 0, X6_learnFrom (upd (upd (upd i 1 (i 1 + nI 0)) 4 (i 4 + 1)) 6 (i 6 + 1)) a (nI 0)) := by
      unfold X6_turnOnce
      rw [h8, e3]
      exact (if_pos d0).trans (if_pos dl)
    have g2 : X8_turns f = (nI 0, X8_learns (upd (upd (upd (upd f 1 (f 1 + nI 0)) 4 (f 4 + 1)) 5 (f 5 + 0)) 6 (f 6 + 1)) (nI 0)) := by
      unfold X8_turns
      rw [e4]
      exact (if_pos dl).trans (if_pos d0)
    rw [g1, g2]
    refine ⟨rfl, rfl, lq_turnG h ht s1 (fun k hk => ?_) (fun k hk => ?_)⟩
    · have e := hi k hk
      by_cases k1 : k = 1
      · subst k1; show i 1 + nI 0 = f 1 + nI 0; rw [e]
      · by_cases k4 : k = 4
        · subst k4; show i 4 + 1 = f 4 + 1; rw [e]
        · by_cases k5 : k = 5
          · subst k5; show i 5 = f 5 + 0; rw [e, Int32.add_zero]
          · by_cases k6 : k = 6
            · subst k6; show i 6 + 1 = f 6 + 1; rw [e]
            · simp only [upd, k1, k4, k5, k6, if_false]; exact e
    · have k1 : ¬ k = 1 := by omega
      have k4 : ¬ k = 4 := by omega
      have k5 : ¬ k = 5 := by omega
      have k6 : ¬ k = 6 := by omega
      simp only [upd, k1, k4, k5, k6, if_false]
  · have d0 : ¬ nI t = (0 : Int32) := nI_ne0 (by omega) (by omega)
    by_cases t1 : t = 1
    · subst t1
      have dl : nI 1 ≤ (1 : Int32) := by decide
      have g1 : X6_turnOnce i a = (nI 1, X6_learnFrom (upd (upd i 1 (i 1 + nI 1)) 4 (i 4 + 1)) a (nI 1)) := by
        unfold X6_turnOnce
        rw [h8, e3]
        exact (if_neg d0).trans (if_pos dl)
      have g2 : X8_turns f = (nI 1, X8_learns (upd (upd (upd (upd f 1 (f 1 + nI 1)) 4 (f 4 + 1)) 5 (f 5 + 0)) 6 (f 6 + 0)) (nI 1)) := by
        unfold X8_turns
        rw [e4]
        exact (if_pos dl).trans (if_neg d0)
      rw [g1, g2]
      refine ⟨rfl, rfl, lq_turnG h ht s1 (fun k hk => ?_) (fun k hk => ?_)⟩
      · have e := hi k hk
        by_cases k1 : k = 1
        · subst k1; show i 1 + nI 1 = f 1 + nI 1; rw [e]
        · by_cases k4 : k = 4
          · subst k4; show i 4 + 1 = f 4 + 1; rw [e]
          · by_cases k5 : k = 5
            · subst k5; show i 5 = f 5 + 0; rw [e, Int32.add_zero]
            · by_cases k6 : k = 6
              · subst k6; show i 6 = f 6 + 0; rw [e, Int32.add_zero]
              · simp only [upd, k1, k4, k5, k6, if_false]; exact e
      · have k1 : ¬ k = 1 := by omega
        have k4 : ¬ k = 4 := by omega
        have k5 : ¬ k = 5 := by omega
        have k6 : ¬ k = 6 := by omega
        simp only [upd, k1, k4, k5, k6, if_false]
    · have dl : ¬ nI t ≤ (1 : Int32) := nI_ge (a := 1) (by omega) (by omega)
      have g1 : X6_turnOnce i a = (nI t, X6_learnFrom (upd (upd (upd i 1 (i 1 + nI t)) 4 (i 4 + 1)) 5 (i 5 + 1)) a (nI t)) := by
        unfold X6_turnOnce
        rw [h8, e3]
        exact (if_neg d0).trans (if_neg dl)
      have g2 : X8_turns f = (nI t, X8_learns (upd (upd (upd (upd f 1 (f 1 + nI t)) 4 (f 4 + 1)) 5 (f 5 + 1)) 6 (f 6 + 0)) (nI t)) := by
        unfold X8_turns
        rw [e4]
        exact (if_neg dl).trans (if_neg d0)
      rw [g1, g2]
      refine ⟨rfl, rfl, lq_turnG h ht s1 (fun k hk => ?_) (fun k hk => ?_)⟩
      · have e := hi k hk
        by_cases k1 : k = 1
        · subst k1; show i 1 + nI t = f 1 + nI t; rw [e]
        · by_cases k4 : k = 4
          · subst k4; show i 4 + 1 = f 4 + 1; rw [e]
          · by_cases k5 : k = 5
            · subst k5; show i 5 + 1 = f 5 + 1; rw [e]
            · by_cases k6 : k = 6
              · subst k6; show i 6 = f 6 + 0; rw [e, Int32.add_zero]
              · simp only [upd, k1, k4, k5, k6, if_false]; exact e
      · have k1 : ¬ k = 1 := by omega
        have k4 : ¬ k = 4 := by omega
        have k5 : ¬ k = 5 := by omega
        have k6 : ¬ k = 6 := by omega
        simp only [upd, k1, k4, k5, k6, if_false]
