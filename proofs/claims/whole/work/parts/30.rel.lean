/-! ===== THE TWO STATES, SIDE BY SIDE: small rows ===== -/
theorem lq_lit (n : Nat) : (OfNat.ofNat n : Int32) = nI n := rfl
theorem lq_c {c : Int32} {m k : Nat} (hc : c = nI m) (h : m + k < 2147483648) : (c + nI k).toNatClampNeg = m + k := by subst hc; rw [nI_add]; exact nI_clamp h
theorem lq_v {c : Int32} {m k n : Nat} (hc : c = nI m) (h : m + k < n) (hn : n < 2147483648) : vp_in (c + nI k) n := by subst hc; rw [nI_add]; exact vp_in_nI h hn
theorem lq_has {n k : Nat} {f : Nat → Int32} (hk : k < n) (hn : n < 2147483648) : X3_has n f (nI k) = 1 := by
  unfold X3_has
  rw [if_neg (nI_pos (by omega))]
  exact if_neg (nI_ge hk hn)
theorem lq_at {n k : Nat} {f : Nat → Int32} (hk : k < n) (hn : n < 2147483648) : X3_at n f (nI k) = f k := by
  unfold X3_at
  rw [lq_has hk hn]
  show (if (1 : Int32) = 0 then (-5) else f (nI k).toNatClampNeg) = f k
  rw [if_neg (by decide), nI_clamp (by omega)]
theorem lq_put {n k : Nat} {f : Nat → Int32} {v : Int32} (hk : k < n) (hn : n < 2147483648) : X3_put n f (nI k) v = upd f k v := by
  unfold X3_put
  rw [lq_has hk hn]
  show (if (1 : Int32) = 0 then f else upd f (nI k).toNatClampNeg v) = upd f k v
  rw [if_neg (by decide), nI_clamp (by omega)]
/-- what the reference's row is, by itself -/
def WF (L F Z : Nat) (f : Nat → Int32) : Prop :=
  L ≤ 30 ∧ F ≤ L ∧ Z ≤ 80 ∧ f 0 = nI L ∧ f 1 = nI F ∧ f 2 = nI Z ∧
  (∃ q s u o : Nat, q ≤ 4 ∧ s ≤ 10 ∧ 1 ≤ u ∧ u ≤ 20 ∧ o ≤ 99 ∧ f 7 = nI q ∧ f 9 = nI s ∧ f 8 = nI u ∧ f 11 = nI o ∧ (f 10 = 0 ∨ f 10 = 1)) ∧
  (∀ k, k < Z → (f (134 + 5 * k) = 0 ∨ f (134 + 5 * k) = 1) ∧ ∃ g : Nat, g < 60 ∧ f (132 + 5 * k) = nI g ∧ f (136 + 5 * k) = nI (1 - g % 2))
/-- the class's state against the reference's row -/
def RA (L Z : Nat) (i : Nat → Int32) (a : Nat → Nat → Int32) (f : Nat → Int32) : Prop :=
  (∀ k, k < 9 → i k = f k) ∧ (∀ k, k < 3 → a 7 k = f (9 + k)) ∧ (∀ k, k < L → a 0 k = f (12 + k) ∧ a 1 k = f (42 + k)) ∧ (∀ k, k < 2 * L → a 2 k = f (72 + k)) ∧
  (∀ k, k < Z → a 3 k = f (132 + 5 * k) ∧ a 4 k = f (133 + 5 * k) ∧ a 5 k = f (134 + 5 * k) ∧ a 6 k = f (135 + 5 * k))
def RS (L F Z : Nat) (i : Nat → Int32) (a : Nat → Nat → Int32) (f : Nat → Int32) : Prop := WF L F Z f ∧ RA L Z i a f
theorem RS.i {L F Z : Nat} {i : Nat → Int32} {a : Nat → Nat → Int32} {f : Nat → Int32} (h : RS L F Z i a f) (k : Nat) (hk : k < 9) : i k = f k := h.2.1 k hk
theorem WF.l {L F Z : Nat} {f : Nat → Int32} (h : WF L F Z f) : f 0 = nI L := h.2.2.2.1
theorem WF.f {L F Z : Nat} {f : Nat → Int32} (h : WF L F Z f) : f 1 = nI F := h.2.2.2.2.1
theorem WF.z {L F Z : Nat} {f : Nat → Int32} (h : WF L F Z f) : f 2 = nI Z := h.2.2.2.2.2.1
theorem RS.l {L F Z : Nat} {i : Nat → Int32} {a : Nat → Nat → Int32} {f : Nat → Int32} (h : RS L F Z i a f) : i 0 = nI L := (h.i 0 (by decide)).trans h.1.l
theorem RS.f {L F Z : Nat} {i : Nat → Int32} {a : Nat → Nat → Int32} {f : Nat → Int32} (h : RS L F Z i a f) : i 1 = nI F := (h.i 1 (by decide)).trans h.1.f
theorem RS.z {L F Z : Nat} {i : Nat → Int32} {a : Nat → Nat → Int32} {f : Nat → Int32} (h : RS L F Z i a f) : i 2 = nI Z := (h.i 2 (by decide)).trans h.1.z
/-! ===== how many leaves are lifted ===== -/
theorem lq_liftL {L F Z : Nat} {i : Nat → Int32} {a : Nat → Nat → Int32} {f : Nat → Int32} (h : RS L F Z i a f) (p : Int32) :
    ∀ (fu fu' t : Nat) (w : Int32), 1 ≤ t → F + t ≤ L → L - (F + t) < fu → L - (F + t) < fu' →
      X6_liftedBy_L10 i a p fu (nI t) w (nI (F + t)) = X8_wouldTurn_L21 f p fu' w (nI t) ∧ S_X8_wouldTurn_L21 f p fu' w (nI t) ∧ ∃ r : Nat, t ≤ r ∧ F + r ≤ L ∧ X6_liftedBy_L10 i a p fu (nI t) w (nI (F + t)) = nI r := by
  have hL := h.1.1
  intro fu
  induction fu with
  | zero => intro fu' t w _ _ h3; omega
  | succ fu ih =>
    intro fu' t w h1 h2 h3 h4
    cases fu' with
    | zero => omega
    | succ fu' =>
      have e0 : (f 1) + nI t = nI (F + t) := by rw [h.1.f, nI_add]
      by_cases c1 : L ≤ F + t
      · have g1 : i 0 ≤ nI (F + t) := by rw [h.l]; exact nI_le c1 (by omega)
        have g2 : f 0 ≤ (f 1) + nI t := by rw [e0, h.1.l]; exact nI_le c1 (by omega)
        have e1 : X6_liftedBy_L10 i a p (fu + 1) (nI t) w (nI (F + t)) = nI t := if_pos g1
        have e2 : X8_wouldTurn_L21 f p (fu' + 1) w (nI t) = nI t := if_pos g2
        refine ⟨by rw [e1, e2], ⟨fun _ => trivial, fun q => absurd g2 q⟩, t, Nat.le_refl _, h2, e1⟩
      · have g1 : ¬ i 0 ≤ nI (F + t) := by rw [h.l]; exact nI_ge (by omega) (by omega)
        have g2 : ¬ f 0 ≤ (f 1) + nI t := by rw [e0, h.1.l]; exact nI_ge (by omega) (by omega)
        have x1 : (12 + f 1) + nI t = nI (12 + (F + t)) := by rw [Int32.add_assoc, e0, lq_lit, nI_add]
        have x2 : (((42 + f 1) + nI t) - 1) = nI (42 + (F + t) - 1) := by
          rw [Int32.add_assoc, e0, lq_lit 42, nI_add]
          obtain ⟨k, hk⟩ : ∃ k, 42 + (F + t) = k + 1 := ⟨42 + (F + t) - 1, by omega⟩
          rw [hk]; exact nI_pred k
        have x3 : nI (F + t) - 1 = nI (F + t - 1) := by
          obtain ⟨k, hk⟩ : ∃ k, F + t = k + 1 := ⟨F + t - 1, by omega⟩
          rw [hk]; exact nI_pred k
        have y1 : X3_at 30 (a 0) (nI (F + t)) = f (12 + (F + t)) := by rw [lq_at (by omega) (by decide)]; exact (h.2.2.2.1 (F + t) (by omega)).1
        have y2 : X3_at 30 (a 1) (nI (F + t) - 1) = f (42 + (F + t) - 1) := by
          rw [x3, lq_at (by omega) (by decide), (h.2.2.2.1 (F + t - 1) (by omega)).2]
          congr 1; omega
        have z1 : ((12 + f 1) + nI t).toNatClampNeg = 12 + (F + t) := by rw [x1]; exact nI_clamp (by omega)
        have z2 : (((42 + f 1) + nI t) - 1).toNatClampNeg = 42 + (F + t) - 1 := by rw [x2]; exact nI_clamp (by omega)
        have v1 : vp_in ((12 + f 1) + nI t) 532 := by rw [x1]; exact vp_in_nI (by omega) (by omega)
        have v2 : vp_in (((42 + f 1) + nI t) - 1) 532 := by rw [x2]; exact vp_in_nI (by omega) (by omega)
        have t0 : ¬ nI t ≤ 0 := nI_nle (by omega) (by omega)
        have e1 : X6_liftedBy_L10 i a p (fu + 1) (nI t) w (nI (F + t)) = (if (w + f (12 + (F + t))) ≤ p then (if (p - w) < f (42 + (F + t) - 1) then X6_liftedBy_L10 i a p fu (nI t + 1) (w + f (12 + (F + t))) (nI (F + t) + 1) else nI t) else nI t) := by
          rw [← y1, ← y2]
          refine (if_neg g1).trans ?_
          dsimp only
          rw [if_neg t0]
        have e2 : X8_wouldTurn_L21 f p (fu' + 1) w (nI t) = (if p < (w + f (12 + (F + t))) then nI t else (if f (42 + (F + t) - 1) ≤ (p - w) then nI t else X8_wouldTurn_L21 f p fu' (w + f (12 + (F + t))) (nI t + 1))) := by
          rw [← z1, ← z2]
          exact if_neg g2
        have hS : (¬ p < (w + f (12 + (F + t))) → ¬ f (42 + (F + t) - 1) ≤ (p - w) → S_X8_wouldTurn_L21 f p fu' (w + f (12 + (F + t))) (nI t + 1)) → S_X8_wouldTurn_L21 f p (fu' + 1) w (nI t) := by
          intro hs
          rw [← z1, ← z2] at hs
          exact ⟨fun _ => trivial, fun _ => ⟨v1, fun _ => trivial, fun c2 => ⟨v2, fun _ => trivial, fun c3 => ⟨v1, fun v hv => ⟨by rw [hv]; exact hs c2 c3, trivial⟩⟩⟩⟩⟩
        by_cases c2 : p < (w + f (12 + (F + t)))
        · rw [e1, e2, if_pos c2, if_neg (Int32.not_le.mpr c2)]
          exact ⟨rfl, hS (fun q => absurd c2 q), t, Nat.le_refl _, h2, rfl⟩
        · rw [e1, e2, if_neg c2, if_pos (lt_nlt c2)]
          by_cases c3 : f (42 + (F + t) - 1) ≤ (p - w)
          · rw [if_pos c3, if_neg (Int32.not_lt.mpr c3)]
            exact ⟨rfl, hS (fun _ q => absurd c3 q), t, Nat.le_refl _, h2, rfl⟩
          · rw [if_neg c3, if_pos (lt_nle c3), nI_1, nI_1]
            obtain ⟨r1, r2, r, r3, r4, r5⟩ := ih fu' (t + 1) (w + f (12 + (F + t))) (by omega) (by omega) (by omega) (by omega)
            rw [show F + (t + 1) = F + t + 1 by omega] at r1 r5
            refine ⟨r1, hS (fun _ _ => by rw [nI_1]; exact r2), r, by omega, r4, r5⟩
theorem lq_fuel {a b : Int32} {x y n : Nat} (ha : a = nI x) (hb : b = nI y) (hx : x < 2147483648) (hy : y < 2147483648) (h : x - y ≤ n) (h2 : y ≤ x) : x - y < (a.toInt - b.toInt).toNat + 1 := by
  subst ha; subst hb
  rw [nI_toInt hx, nI_toInt hy]
  omega
theorem lq_lift {L F Z : Nat} {i : Nat → Int32} {a : Nat → Nat → Int32} {f : Nat → Int32} (h : RS L F Z i a f) (hF : F < L) (p : Int32) :
    X6_liftedBy i a p = X8_wouldTurn f p ∧ S_X8_wouldTurn f p ∧ ∃ r : Nat, F + r ≤ L ∧ X6_liftedBy i a p = nI r := by
  have hL := h.1.1
  have z1 : (12 + f 1).toNatClampNeg = 12 + F := by rw [h.1.f]; exact lq_c (m := 12) rfl (by omega)
  have v1 : vp_in (12 + f 1) 532 := by rw [h.1.f]; exact lq_v (m := 12) rfl (by omega) (by decide)
  have y1 : X3_at 30 (a 0) (nI F) = f (12 + F) := by rw [lq_at (by omega) (by decide)]; exact (h.2.2.2.1 F (by omega)).1
  have g1 : ¬ i 0 ≤ nI F := by rw [h.l]; exact nI_ge hF (by omega)
  have e1 : ∀ fu, X6_liftedBy_L10 i a p (fu + 1) 0 0 (nI F) = (if f (12 + F) ≤ p then X6_liftedBy_L10 i a p fu (nI 1) (f (12 + F)) (nI (F + 1)) else 0) := by
    intro fu
    rw [← y1]
    refine (if_neg g1).trans ?_
    dsimp only
    rw [if_pos (show (0 : Int32) ≤ 0 by decide), Int32.zero_add, Int32.zero_add, nI_1]
    rfl
  have e2 : X8_wouldTurn f p = (if f (12 + F) ≤ p then X8_wouldTurn_L21 f p (((f 0 : Int32).toInt - ((f 1) + 1 : Int32).toInt).toNat + 1) (f (12 + F)) (nI 1) else 0) := by
    rw [← z1]; rfl
  have hS : (f (12 + F) ≤ p → S_X8_wouldTurn_L21 f p (((f 0 : Int32).toInt - ((f 1) + 1 : Int32).toInt).toNat + 1) (f (12 + F)) (nI 1)) → S_X8_wouldTurn f p := by
    intro hs
    rw [← z1] at hs
    exact ⟨v1, fun v hv => ⟨fun c => ⟨by subst hv; exact hs c, trivial⟩, fun _ => trivial⟩⟩
  have e3 : X6_liftedBy i a p = X6_liftedBy_L10 i a p ((((i 0 : Int32).toInt - ((i 1) : Int32).toInt).toNat) + 1) 0 0 (nI F) := by
    unfold X6_liftedBy
    rw [h.f]
  have f1 : L - (F + 1) < (i 0 : Int32).toInt - ((i 1) : Int32).toInt := by
    rw [h.l, h.f, nI_toInt (by omega), nI_toInt (by omega)]; omega
  have f2 : L - (F + 1) < ((f 0 : Int32).toInt - ((f 1) + 1 : Int32).toInt).toNat + 1 := by
    rw [h.1.l, h.1.f, nI_1, nI_toInt (by omega), nI_toInt (by omega)]; omega
  rw [e3, e1, e2]
  by_cases c : f (12 + F) ≤ p
  · rw [if_pos c, if_pos c]
    obtain ⟨r1, r2, r, r3, r4, r5⟩ := lq_liftL h p _ _ 1 (f (12 + F)) (Nat.le_refl _) (by omega) (show L - (F + 1) < ((i 0 : Int32).toInt - ((i 1) : Int32).toInt).toNat by omega) f2
    exact ⟨r1, hS (fun _ => r2), r, r4, r5⟩
  · rw [if_neg c, if_neg c]
    exact ⟨rfl, hS (fun q => absurd q c), 0, by omega, rfl⟩
