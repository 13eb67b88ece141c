set_option maxRecDepth 100000
section GUESS
variable {hs z : Int32} {Bh : Nat → Nat → Nat} {Vh : Nat → lt_SV} {i0 : Nat → Int32} {a0 : Nat → Nat → Int32} {i1 : Nat → Int32} {a1 : Nat → Nat → Int32} {i2 : Nat → Int32} {a2 : Nat → Nat → Int32} {len : Int32} {sg : Nat → Int32} {i : Nat → Int32} {a : Nat → Nat → Int32}
theorem lq_ofP {b : Nat → Nat → Int32} {k j : Nat} (hk : k < 80) (hj : j < 5) {c : Int32} (hc : c = nI j) : X8_ofPicture i b (nI k) c = b 0 (132 + j + 5 * k) ∧ S_X8_ofPicture i b (nI k) c := by
  have e : ((132 : Int32) + (5 * nI k)) + c = nI (132 + j + 5 * k) := by
    rw [hc, show (5 : Int32) = nI 5 from rfl, pk_mul, show (132 : Int32) = nI 132 from rfl, nI_add, nI_add]; congr 1; omega
  unfold X8_ofPicture S_X8_ofPicture
  rw [e, nI_clamp (by omega)]
  exact ⟨rfl, vp_in_nI (by omega) (by omega), trivial⟩
theorem lq_isPageS {b : Nat → Nat → Int32} {p : Int32} : S_X8_isPage i b p := fun _ _ => trivial
def lq_ct (i0 : Nat → Int32) (a0 : Nat → Nat → Int32) (v2 : Int32) : Int32 := if v2 = (-5) then (-5) else (if X0_hasPage (i0 0) (a0 0) (a0 1) (a0 2) (v2 + 1) = 0 then (-5) else (v2 + 1))
def lq_rt (i : Nat → Int32) (b : Nat → Nat → Int32) (p0 : Int32) : Int32 := if p0 = 0 then (-5) else (if (b 5) (p0 - 1).toNatClampNeg = (-5) then (-5) else (if X8_isPage i b ((b 5) (p0 - 1).toNatClampNeg + 1) = 0 then (-5) else ((b 5) (p0 - 1).toNatClampNeg + 1)))
theorem lq_tail {L F Z : Nat} {b : Nat → Nat → Int32} (c : RS L F Z i0 a0 (b 0)) {k : Nat} (hk : k < Z) {v2 : Int32} (hv0 : k = 0 → v2 = (-5)) (hv : 0 < k → v2 = b 5 (k - 1)) :
    lq_ct i0 a0 v2 = lq_rt i b (nI k) ∧ (nI k = 0 ∨ (¬ nI k = 0 ∧ vp_in (nI k - 1) 80)) ∧ (lq_rt i b (nI k) = (-5) ∨ ∃ g, g < 2 * L ∧ lq_rt i b (nI k) = nI g) := by
  have hZ := c.1.2.2.1
  unfold lq_ct lq_rt
  by_cases k0 : k = 0
  · subst k0
    rw [hv0 rfl, if_pos rfl, if_pos (show nI 0 = 0 from nI_0)]
    exact ⟨rfl, Or.inl nI_0, Or.inl rfl⟩
  · have hk0 : ¬ nI k = 0 := nI_ne0 (by omega) (by omega)
    obtain ⟨m, rfl⟩ : ∃ m, k = m + 1 := ⟨k - 1, by omega⟩
    have e1 : nI (m + 1) - 1 = nI m := nI_pred m
    have ev : v2 = b 5 m := hv (by omega)
    rw [if_neg hk0, e1, nI_clamp (by omega), ← ev]
    refine ⟨?_, Or.inr ⟨hk0, vp_in_nI (by omega) (by decide)⟩, ?_⟩
    · by_cases q : v2 = (-5)
      · rw [if_pos q, if_pos q]
      · rw [if_neg q, if_neg q]
        rcases lq_isPage (i := i) (a := b) c (v2 + 1) with ⟨x1, x2⟩ | ⟨x1, x2, -⟩ <;> rw [x1, x2]
    · by_cases q : v2 = (-5)
      · rw [if_pos q]; exact Or.inl rfl
      · rw [if_neg q]
        rcases lq_isPage (i := i) (a := b) c (v2 + 1) with ⟨x1, x2⟩ | ⟨x1, x2, g, hg, x3⟩
        · rw [x2, if_pos rfl]; exact Or.inl rfl
        · rw [x2, if_neg (show ¬ (1 : Int32) = 0 by decide)]; exact Or.inr ⟨g, hg, x3⟩
/-- one picture's guess, on both sides -/
theorem lq_guess {L F Z : Nat} {b : Nat → Nat → Int32} (c : RS L F Z i0 a0 (b 0)) {k : Nat} (hk : k < Z) {pi pa : Int32} {gs ch : Nat → Int32} {v2 : Int32} (hv0 : k = 0 → v2 = (-5)) (hv : 0 < k → v2 = b 5 (k - 1)) :
    X4_guessOf pi pa gs ch i0 a0 (nI k) v2 = X8_guess i b (nI k) ∧ S_X8_guess i b (nI k) ∧ (X8_guess i b (nI k) = (-5) ∨ ∃ g, g < 2 * L ∧ X8_guess i b (nI k) = nI g) := by
  have hZ := c.1.2.2.1
  obtain ⟨t1, t2, t3⟩ := lq_tail (i := i) c hk hv0 hv
  have tS : (nI k = 0 → True) ∧ (¬ (nI k = 0) → (vp_in (nI k - 1) 80) ∧ ∀ v_60, v_60 = (b 5) (nI k - 1).toNatClampNeg → (v_60 = (-5) → True) ∧ (¬ (v_60 = (-5)) → (S_X8_isPage i b (v_60 + 1)) ∧ ∀ r_74, r_74 = X8_isPage i b (v_60 + 1) → (r_74 = 0 → True) ∧ (¬ (r_74 = 0) → True))) := by
    refine ⟨fun _ => trivial, fun q => ⟨?_, fun v _ => ⟨fun _ => trivial, fun _ => ⟨lq_isPageS, fun _ _ => ⟨fun _ => trivial, fun _ => trivial⟩⟩⟩⟩⟩
    rcases t2 with t2 | t2
    · exact absurd t2 q
    · exact t2.2
  have hg := (c.1.2.2.2.2.2.2.2 k hk).1
  have n1 : X3_at 80 (a0 4) (nI k) = b 0 (133 + 5 * k) := (lq_at (by omega) (by decide)).trans (c.2.2.2.2.2 k hk).2.1
  have n2 : X5_isGood (i0 2) (a0 3) (a0 4) (a0 5) (a0 6) (nI k) = b 0 (134 + 5 * k) := by
    unfold X5_isGood
    rw [lq_at (by omega) (by decide), (c.2.2.2.2.2 k hk).2.2.1]
    rcases hg with g | g <;> rw [g]
    · exact if_neg (by decide)
    · exact if_pos rfl
  have n3 : X3_at 3 (a0 7) 2 = b 0 11 := (lq_at (k := 2) (by decide) (by decide)).trans (c.2.2.1 2 (by decide))
  obtain ⟨o1, s1⟩ := lq_ofP (i := i) (b := b) (k := k) (j := 1) (c := 1) (by omega) (by decide) rfl
  obtain ⟨o2, s2⟩ := lq_ofP (i := i) (b := b) (k := k) (j := 2) (c := 2) (by omega) (by decide) rfl
  have o1 : X8_ofPicture i b (nI k) 1 = b 0 (133 + 5 * k) := o1
  have o2 : X8_ofPicture i b (nI k) 2 = b 0 (134 + 5 * k) := o2
  have eC : X4_guessOf pi pa gs ch i0 a0 (nI k) v2 = (if b 0 (133 + 5 * k) = (-5) then lq_ct i0 a0 v2 else (if b 0 (134 + 5 * k) = 0 then lq_ct i0 a0 v2 else (if X0_hasPage (i0 0) (a0 0) (a0 1) (a0 2) (b 0 (133 + 5 * k) - b 0 11) = 0 then lq_ct i0 a0 v2 else b 0 (133 + 5 * k) - b 0 11))) := by
    rw [← n1, ← n2, ← n3]; rfl
  have eR : X8_guess i b (nI k) = (if b 0 (133 + 5 * k) = (-5) then lq_rt i b (nI k) else (if b 0 (134 + 5 * k) = 1 then (if X8_isPage i b (b 0 (133 + 5 * k) - b 0 11) = 0 then lq_rt i b (nI k) else b 0 (133 + 5 * k) - b 0 11) else lq_rt i b (nI k))) := by
    rw [← o1, ← o2]; rfl
  have hS : S_X8_guess i b (nI k) := by
    unfold S_X8_guess
    exact ⟨s1, fun r hr v hv => ⟨fun _ => tS, fun _ => ⟨s2, fun r2 hr2 => ⟨fun _ => ⟨lq_isPageS, fun r3 hr3 => ⟨fun _ => tS, fun _ => trivial⟩⟩, fun _ => tS⟩⟩⟩⟩
  rw [eC, eR, t1]
  by_cases c1 : b 0 (133 + 5 * k) = (-5)
  · rw [if_pos c1, if_pos c1]; exact ⟨rfl, hS, t3⟩
  · rw [if_neg c1, if_neg c1]
    rcases hg with g | g <;> rw [g]
    · rw [if_pos (show (0 : Int32) = 0 from rfl), if_neg (show ¬ (0 : Int32) = 1 by decide)]; exact ⟨rfl, hS, t3⟩
    · rw [if_neg (show ¬ (1 : Int32) = 0 by decide), if_pos (show (1 : Int32) = 1 from rfl)]
      rcases lq_isPage (i := i) (a := b) c (b 0 (133 + 5 * k) - b 0 11) with ⟨x1, x2⟩ | ⟨x1, x2, g', hg', x3⟩
      · rw [x1, x2, if_pos (show (0 : Int32) = 0 from rfl)]; exact ⟨rfl, hS, t3⟩
      · rw [x1, x2, if_neg (show ¬ (1 : Int32) = 0 by decide)]; exact ⟨rfl, hS, Or.inr ⟨g', hg', x3⟩⟩
/-- what the guesses are, on both sides -/
def JG (L Z : Nat) (gs ch : Nat → Int32) (b : Nat → Nat → Int32) (k : Nat) : Prop :=
  (∀ j, j < k → gs j = b 5 j ∧ (gs j = (-5) ∨ ∃ g, g < 2 * L ∧ gs j = nI g)) ∧ ∀ p, p < 60 → ch p = b 6 p ∧ (ch p = (-5) ∨ ∃ m, m < Z ∧ ch p = nI m)
theorem JG.put {L Z k : Nat} {gs ch : Nat → Int32} {b : Nat → Nat → Int32} (h : JG L Z gs ch b k) {r : Int32} (hr : r = (-5) ∨ ∃ g, g < 2 * L ∧ r = nI g) : JG L Z (upd gs k r) ch (va_up b 5 (upd (b 5) k r)) (k + 1) := by
  refine ⟨fun j hj => ?_, fun p hp => ?_⟩
  · rw [lq_row]
    by_cases q : j = k
    · subst q; rw [pk_us, pk_us]; exact ⟨rfl, hr⟩
    · rw [pk_un q, pk_un q]; exact h.1 j (by omega)
  · rw [lq_rown (by decide)]; exact h.2 p hp
theorem JG.pick {L Z k n g : Nat} {gs ch : Nat → Int32} {b : Nat → Nat → Int32} (h : JG L Z gs ch b n) (hk : k < Z) : JG L Z gs (upd ch g (nI k)) (va_up b 6 (upd (b 6) g (nI k))) n := by
  refine ⟨fun j hj => ?_, fun p hp => ?_⟩
  · rw [lq_rown (by decide)]; exact h.1 j hj
  · rw [lq_row]
    by_cases q : p = g
    · subst q; rw [pk_us, pk_us]; exact ⟨rfl, Or.inr ⟨k, hk, rfl⟩⟩
    · rw [pk_un q, pk_un q]; exact h.2 p hp
theorem JG.same {L Z n : Nat} {gs ch f : Nat → Int32} {b : Nat → Nat → Int32} (h : JG L Z gs ch b n) (hf : f = b 6) : JG L Z gs ch (va_up b 6 f) n := by
  subst hf
  refine ⟨fun j hj => ?_, fun p hp => ?_⟩
  · rw [lq_rown (by decide)]; exact h.1 j hj
  · rw [lq_row]; exact h.2 p hp
theorem lq_gut {L F Z : Nat} {f : Nat → Int32} (c : RS L F Z i0 a0 f) {k : Nat} (hk : k < Z) : X5_isGood (i0 2) (a0 3) (a0 4) (a0 5) (a0 6) (nI k) = f (134 + 5 * k) := by
  have hZ := c.1.2.2.1
  have hg := (c.1.2.2.2.2.2.2.2 k hk).1
  unfold X5_isGood
  rw [lq_at (by omega) (by decide), (c.2.2.2.2.2 k hk).2.2.1]
  rcases hg with g | g <;> rw [g]
  · exact if_neg (by decide)
  · exact if_pos rfl
/-- one page chosen, on both sides -/
theorem lq_choose {L F Z : Nat} {b : Nat → Nat → Int32} (c : RS L F Z i0 a0 (b 0)) {k g : Nat} (hk : k < Z) (hg : g < 2 * L) {pi pa : Int32} {gs ch : Nat → Int32} (hj : JG L Z gs ch b (k + 1)) {f5 : Nat → Nat → Int32} (hf : f5 0 = b 0) :
    ∃ w : Int32, (w = nI k ∨ w = b 6 g) ∧ (X4_choose pi pa gs ch (i0 2) (a0 3) (a0 4) (a0 5) (a0 6) (nI k) (nI g) = upd ch g w ∨ (w = b 6 g ∧ X4_choose pi pa gs ch (i0 2) (a0 3) (a0 4) (a0 5) (a0 6) (nI k) (nI g) = ch)) ∧
      (b 6 g = (-5) → w = nI k) ∧ (¬ b 6 g = (-5) → S_X8_ofPicture i f5 (b 6 g) 2 ∧ S_X8_ofPicture i f5 (nI k) 2 ∧ (X8_ofPicture i f5 (b 6 g) 2 = 0 → (X8_ofPicture i f5 (nI k) 2 = 1 → w = nI k) ∧ (¬ X8_ofPicture i f5 (nI k) 2 = 1 → w = b 6 g)) ∧ (¬ X8_ofPicture i f5 (b 6 g) 2 = 0 → w = b 6 g)) := by
  have hZ := c.1.2.2.1
  have hL := c.1.1
  obtain ⟨h1, h2⟩ := hj.2 g (by omega)
  have e5 : X3_at 60 ch (nI g) = b 6 g := (lq_at (by omega) (by decide)).trans h1
  have eP : X3_put 60 ch (nI g) (nI k) = upd ch g (nI k) := lq_put (by omega) (by decide)
  have ek := lq_gut c hk
  obtain ⟨ok, sk⟩ := lq_ofP (i := i) (b := f5) (k := k) (j := 2) (c := 2) (by omega) (by decide) rfl
  have ok : X8_ofPicture i f5 (nI k) 2 = b 0 (134 + 5 * k) := by rw [ok, hf]
  have gk := (c.1.2.2.2.2.2.2.2 k hk).1
  unfold X4_choose
  rw [e5, eP]
  dsimp only
  by_cases q : b 6 g = (-5)
  · rw [if_pos q]
    exact ⟨nI k, Or.inl rfl, Or.inl rfl, fun _ => rfl, fun n => absurd q n⟩
  · rw [if_neg q]
    obtain ⟨m, hm, em⟩ : ∃ m, m < Z ∧ b 6 g = nI m := by
      rcases h2 with h2 | ⟨m, hm, em⟩
      · exact absurd (h1.symm.trans h2) q
      · exact ⟨m, hm, h1.symm.trans em⟩
    have e6 := lq_gut c hm
    have gm := (c.1.2.2.2.2.2.2.2 m hm).1
    obtain ⟨om, sm⟩ := lq_ofP (i := i) (b := f5) (k := m) (j := 2) (c := 2) (by omega) (by decide) rfl
    have om : X8_ofPicture i f5 (nI m) 2 = b 0 (134 + 5 * m) := by rw [om, hf]
    rw [em, e6, ek, om, ok]
    rcases gm with gm | gm <;> rw [gm]
    · rw [if_pos (show (0 : Int32) = 0 from rfl)]
      rcases gk with gk | gk <;> rw [gk]
      · rw [if_pos (show (0 : Int32) = 0 from rfl)]
        exact ⟨nI m, Or.inr rfl, Or.inr ⟨rfl, rfl⟩, fun x => absurd (em.trans x) q, fun _ => ⟨sm, sk, fun _ => ⟨fun x => absurd x (by decide), fun _ => rfl⟩, fun _ => rfl⟩⟩
      · rw [if_neg (show ¬ (1 : Int32) = 0 by decide)]
        exact ⟨nI k, Or.inl rfl, Or.inl rfl, fun _ => rfl, fun _ => ⟨sm, sk, fun _ => ⟨fun _ => rfl, fun x => absurd rfl x⟩, fun x => absurd rfl x⟩⟩
    · rw [if_neg (show ¬ (1 : Int32) = 0 by decide)]
      exact ⟨nI m, Or.inr rfl, Or.inr ⟨rfl, rfl⟩, fun x => absurd (em.trans x) q, fun _ => ⟨sm, sk, fun x => absurd x (by decide), fun _ => rfl⟩⟩
theorem lq_upd {f : Nat → Int32} {k : Nat} : upd f k (f k) = f := by
  funext j
  by_cases q : j = k
  · subst q; exact pk_us
  · exact pk_un q
/-- all guesses, on both sides -/
theorem lq_makeL {L F Z : Nat} {pi pa : Int32} {gs0 ch0 : Nat → Int32} : ∀ (fu fu' k : Nat) (v2 : Int32) (gs ch : Nat → Int32) (b : Nat → Nat → Int32), RS L F Z i0 a0 (b 0) → k ≤ Z → Z - k < fu → Z - k < fu' → (k = 0 → v2 = (-5)) → (0 < k → v2 = b 5 (k - 1)) → JG L Z gs ch b k →
    S_X8_guessesAll_L24 i a fu' (nI k) b ∧ (∀ j, j ≠ 5 → j ≠ 6 → X8_guessesAll_L24 i a fu' (nI k) b j = b j) ∧ ∃ gs' ch', X4_makeFor_L36 pi pa gs0 ch0 i0 a0 fu v2 (nI k) (nI Z) (nI (2 * L)) gs ch = (nI Z, nI (2 * L), gs', ch') ∧ JG L Z gs' ch' (X8_guessesAll_L24 i a fu' (nI k) b) Z := by
  intro fu
  induction fu with
  | zero => intro fu' k v2 gs ch b _ _ h; omega
  | succ fu ih =>
    intro fu' k v2 gs ch b c hkZ h1 h2 hv0 hv hj
    cases fu' with
    | zero => omega
    | succ fu' =>
      have hZ := c.1.2.2.1
      have hL := c.1.1
      by_cases q : k = Z
      · subst q
        have g1 : nI k ≤ nI k := nI_le (Nat.le_refl _) (by omega)
        have g2 : (b 0) 2 ≤ nI k := by rw [c.1.z]; exact g1
        have e1 : X8_guessesAll_L24 i a (fu' + 1) (nI k) b = b := if_pos g2
        have e2 : X4_makeFor_L36 pi pa gs0 ch0 i0 a0 (fu + 1) v2 (nI k) (nI k) (nI (2 * L)) gs ch = (nI k, nI (2 * L), gs, ch) := if_pos g1
        rw [e1]
        exact ⟨⟨fun _ => trivial, fun n => absurd g2 n⟩, fun _ _ _ => rfl, gs, ch, e2, hj⟩
      · have hk : k < Z := by omega
        have g1 : ¬ nI Z ≤ nI k := nI_ge hk (by omega)
        have g2 : ¬ (b 0) 2 ≤ nI k := by rw [c.1.z]; exact g1
        obtain ⟨u1, u2, u3⟩ := lq_guess (i := i) c hk (pi := nI Z) (pa := nI (2 * L)) (gs := gs) (ch := ch) hv0 hv
        have ec : (nI k).toNatClampNeg = k := nI_clamp (by omega)
        have ep : X3_put 80 gs (nI k) (X8_guess i b (nI k)) = upd gs k (X8_guess i b (nI k)) := lq_put (by omega) (by decide)
        have vk : vp_in (nI k) 80 := vp_in_nI (by omega) (by decide)
        generalize hr : X8_guess i b (nI k) = r at u1 u3 ep
        have hj1 := hj.put u3
        have eC : X4_makeFor_L36 pi pa gs0 ch0 i0 a0 (fu + 1) v2 (nI k) (nI Z) (nI (2 * L)) gs ch = (if r = (-5) then X4_makeFor_L36 pi pa gs0 ch0 i0 a0 fu r (nI (k + 1)) (nI Z) (nI (2 * L)) (upd gs k r) ch else X4_makeFor_L36 pi pa gs0 ch0 i0 a0 fu r (nI (k + 1)) (nI Z) (nI (2 * L)) (upd gs k r) (X4_choose (nI Z) (nI (2 * L)) (upd gs k r) ch (i0 2) (a0 3) (a0 4) (a0 5) (a0 6) (nI k) r)) := by
          rw [← nI_1, ← ep, ← u1]
          exact if_neg g1
        have hb1 : (va_up b 5 (upd (b 5) k r)) 0 = b 0 := lq_rown (by decide)
        have hb6 : (va_up b 5 (upd (b 5) k r)) 6 = b 6 := lq_rown (by decide)
        have e5 : (upd (b 5) k r) k = r := pk_us
        rw [eC]
        by_cases q5 : r = (-5)
        · have eR : X8_guessesAll_L24 i a (fu' + 1) (nI k) b = X8_guessesAll_L24 i a fu' (nI (k + 1)) (va_up b 5 (upd (b 5) k r)) := by
            refine (if_neg g2).trans ?_
            rw [hr, ec]
            dsimp only
            rw [e5, if_pos q5, nI_1]
          obtain ⟨w1, w2, gs', ch', w3, w4⟩ := ih fu' (k + 1) r (upd gs k r) ch (va_up b 5 (upd (b 5) k r)) (by rw [hb1]; exact c) (by omega) (by omega) (by omega) (fun n => absurd n (by omega)) (fun _ => by rw [lq_row]; exact e5.symm) hj1
          rw [eR, if_pos q5]
          refine ⟨⟨fun n => absurd n g2, fun _ => ⟨u2, fun x hx => ⟨vk, vk, fun v hv => ?_⟩⟩⟩, fun j h5 h6 => (w2 j h5 h6).trans (lq_rown h5), gs', ch', w3, w4⟩
          rw [hr] at hx
          subst hx
          rw [ec] at hv ⊢
          rw [e5] at hv
          subst hv
          exact ⟨fun _ => ⟨by rw [nI_1]; exact w1, trivial⟩, fun n => absurd q5 n⟩
        · obtain ⟨g, hg, eg⟩ := u3.resolve_left q5
          subst eg
          have eg6 : (nI g).toNatClampNeg = g := nI_clamp (by omega)
          have vg : vp_in (nI g) 60 := vp_in_nI (by omega) (by decide)
          obtain ⟨w, x1, x2, x3, x4⟩ := lq_choose (i := i) (f5 := va_up b 5 (upd (b 5) k (nI g))) (b := va_up b 5 (upd (b 5) k (nI g))) (by rw [hb1]; exact c) hk hg (pi := nI Z) (pa := nI (2 * L)) hj1 rfl
          rw [hb6] at x1 x2 x3 x4
          have eR : X8_guessesAll_L24 i a (fu' + 1) (nI k) b = X8_guessesAll_L24 i a fu' (nI (k + 1)) (va_up (va_up b 5 (upd (b 5) k (nI g))) 6 (upd (b 6) g w)) := by
            refine (if_neg g2).trans ?_
            rw [hr, ec]
            dsimp only
            rw [e5, if_neg q5, eg6, nI_1]
            by_cases y1 : b 6 g = (-5)
            · rw [if_pos y1, x3 y1]
            · rw [if_neg y1]
              obtain ⟨z1, z2, z3, z4⟩ := x4 y1
              by_cases y2 : X8_ofPicture i (va_up b 5 (upd (b 5) k (nI g))) (b 6 g) 2 = 0
              · rw [if_pos y2]
                by_cases y3 : X8_ofPicture i (va_up b 5 (upd (b 5) k (nI g))) (nI k) 2 = 1
                · rw [if_pos y3, (z3 y2).1 y3]
                · rw [if_neg y3, (z3 y2).2 y3]
              · rw [if_neg y2, z4 y2]
          have hj2 : JG L Z (upd gs k (nI g)) (X4_choose (nI Z) (nI (2 * L)) (upd gs k (nI g)) ch (i0 2) (a0 3) (a0 4) (a0 5) (a0 6) (nI k) (nI g)) (va_up (va_up b 5 (upd (b 5) k (nI g))) 6 (upd (b 6) g w)) (k + 1) := by
            rcases x1 with x1 | x1
            · rw [x1] at x2 ⊢
              have hp := hj1.pick (g := g) hk
              rw [hb6] at hp
              rcases x2 with x2 | ⟨x5, x2⟩
              · rw [x2]; exact hp
              · rw [x2, x5, lq_upd]; exact hj1.same hb6.symm
            · rw [x1, lq_upd]
              rcases x2 with x2 | ⟨x5, x2⟩
              · have h7 : ch g = b 6 g := (hj.2 g (by omega)).1
                rw [x1, ← h7, lq_upd] at x2
                rw [x2]; exact hj1.same hb6.symm
              · rw [x2]; exact hj1.same hb6.symm
          obtain ⟨w1, w2, gs', ch', w3, w4⟩ := ih fu' (k + 1) (nI g) (upd gs k (nI g)) _ (va_up (va_up b 5 (upd (b 5) k (nI g))) 6 (upd (b 6) g w)) (by rw [lq_rown (by decide), hb1]; exact c) (by omega) (by omega) (by omega) (fun n => absurd n (by omega)) (fun _ => by rw [lq_rown (by decide), lq_row]; exact e5.symm) hj2
          rw [eR, if_neg q5]
          refine ⟨⟨fun n => absurd n g2, fun _ => ⟨u2, fun x hx => ⟨vk, vk, fun v hv => ?_⟩⟩⟩, fun j h5 h6 => ((w2 j h5 h6).trans (lq_rown h6)).trans (lq_rown h5), gs', ch', w3, w4⟩
          rw [hr] at hx
          subst hx
          rw [ec] at hv ⊢
          rw [e5] at hv
          subst hv
          refine ⟨fun n => absurd n q5, fun _ => ⟨vg, fun y hy => ?_⟩⟩
          rw [eg6] at hy ⊢
          subst hy
          rw [nI_1]
          refine ⟨fun y1 => ⟨vg, by rw [← x3 y1]; exact w1, trivial⟩, fun y1 => ?_⟩
          obtain ⟨z1, z2, z3, z4⟩ := x4 y1
          refine ⟨z1, fun y hy => ?_⟩
          subst hy
          refine ⟨fun y2 => ⟨z2, fun y hy => ?_⟩, fun y2 => ⟨vg, by rw [← z4 y2]; exact w1, trivial⟩⟩
          subst hy
          exact ⟨fun y3 => ⟨vg, by rw [← (z3 y2).1 y3]; exact w1, trivial⟩, fun y3 => ⟨vg, by rw [← (z3 y2).2 y3]; exact w1, trivial⟩⟩
theorem lq_fillL {f : Nat → Int32} : ∀ (fu k : Nat) (g : Nat → Int32), k ≤ 60 → 60 - k < fu → (∀ p, p < k → g p = (-5)) → ∀ p, p < 60 → J7_fill_53178_L5 60 f (-5) fu (nI k) g p = (-5) := by
  intro fu
  induction fu with
  | zero => intro k g _ h; omega
  | succ fu ih =>
    intro k g hk h hg p hp
    by_cases q : k = 60
    · subst q
      have e : J7_fill_53178_L5 60 f (-5) (fu + 1) (nI 60) g = g := if_pos (show Int32.ofNat 60 ≤ nI 60 from nI_le (Nat.le_refl _) (by decide))
      rw [e]; exact hg p hp
    · have e : J7_fill_53178_L5 60 f (-5) (fu + 1) (nI k) g = J7_fill_53178_L5 60 f (-5) fu (nI (k + 1)) (upd g k (-5)) := by
        refine (if_neg (show ¬ Int32.ofNat 60 ≤ nI k from nI_ge (b := 60) (by omega) (by decide))).trans ?_
        rw [nI_1, nI_clamp (by omega)]
      rw [e]
      refine ih (k + 1) _ (by omega) (by omega) (fun j hj => ?_) p hp
      by_cases y : j = k
      · subst y; exact pk_us
      · rw [pk_un y]; exact hg j (by omega)
theorem lq_fill {f : Nat → Int32} {p : Nat} (hp : p < 60) : X3_putAll 60 f (-5) p = (-5) := lq_fillL (f := f) _ 0 f (by decide) (by decide) (fun p h => absurd h (by omega)) p hp
theorem lq_guessL2 : ∀ (fu k : Nat) (b : Nat → Nat → Int32), k ≤ 60 → 60 - k < fu → (∀ p, p < k → b 6 p = (-5)) → ∃ b', (∀ j, j ≠ 6 → b' j = b j) ∧ (∀ p, p < 60 → b' 6 p = (-5)) ∧ X8_guessesAll_L2 i a fu (nI k) b = X8_guessesAll_L24 i a ((((b' 0) 2 : Int32).toInt - (0 : Int32).toInt).toNat + 1) 0 b' ∧ (S_X8_guessesAll_L24 i a ((((b' 0) 2 : Int32).toInt - (0 : Int32).toInt).toNat + 1) 0 b' → S_X8_guessesAll_L2 i a fu (nI k) b) := by
  intro fu
  induction fu with
  | zero => intro k b _ h; omega
  | succ fu ih =>
    intro k b hk h hb
    by_cases q : k = 60
    · subst q
      have g : (60 : Int32) ≤ nI 60 := nI_le (a := 60) (Nat.le_refl _) (by decide)
      exact ⟨b, fun _ _ => rfl, hb, if_pos g, fun s => ⟨fun _ => ⟨s, trivial⟩, fun n => absurd g n⟩⟩
    · have g : ¬ (60 : Int32) ≤ nI k := nI_ge (b := 60) (by omega) (by decide)
      have ec : (nI k).toNatClampNeg = k := nI_clamp (by omega)
      obtain ⟨b', x1, x2, x3, x4⟩ := ih (k + 1) (va_up b 6 (upd (b 6) k (-5))) (by omega) (by omega) (fun j hj => by
        rw [lq_row]
        by_cases y : j = k
        · subst y; exact pk_us
        · rw [pk_un y]; exact hb j (by omega))
      refine ⟨b', fun j hj => (x1 j hj).trans (lq_rown hj), x2, ?_, fun s => ⟨fun n => absurd n g, fun _ => ⟨vp_in_nI (by omega) (by decide), ?_, trivial⟩⟩⟩
      · refine (if_neg g).trans ?_
        rw [ec, nI_1]; exact x3
      · rw [ec, nI_1]; exact x4 s
theorem lq_make {L F Z : Nat} (c : RS L F Z i0 a0 (a 0)) {pi pa : Int32} {gs ch : Nat → Int32} :
    S_X8_guessesAll i a ∧ (∀ j, j ≠ 5 → j ≠ 6 → X8_guessesAll i a j = a j) ∧ ∃ gs' ch', X4_makeFor pi pa gs ch i0 a0 = (nI Z, nI (2 * L), gs', ch') ∧ JG L Z gs' ch' (X8_guessesAll i a) Z := by
  have hZ := c.1.2.2.1
  have hL := c.1.1
  obtain ⟨b', x1, x2, x3, x4⟩ := lq_guessL2 (i := i) (a := a) (((60 : Int32).toInt - (0 : Int32).toInt).toNat + 1) 0 a (by decide) (by decide) (fun p h => absurd h (by omega))
  have c' : RS L F Z i0 a0 (b' 0) := by rw [x1 0 (by decide)]; exact c
  have f1 : Z - 0 < (((nI Z : Int32).toInt - (0 : Int32).toInt).toNat + 1) := by rw [nI_toInt (by omega), Int32.toInt_zero]; omega
  have hj : JG L Z gs (X3_putAll 60 ch (-5)) b' 0 := ⟨fun j h => absurd h (by omega), fun p hp => ⟨by rw [lq_fill hp, x2 p hp], Or.inl (lq_fill hp)⟩⟩
  obtain ⟨y1, y2, gs', ch', y3, y4⟩ := lq_makeL (i := i) (a := a) (pi := pi) (pa := pa) (gs0 := gs) (ch0 := ch) ((((nI Z : Int32)).toInt - (0 : Int32).toInt).toNat + 1) (((nI Z : Int32).toInt - (0 : Int32).toInt).toNat + 1) 0 (-5) gs (X3_putAll 60 ch (-5)) b' c' (by omega) f1 f1 (fun _ => rfl) (fun n => absurd n (by omega)) hj
  have eA : X8_guessesAll i a = X8_guessesAll_L24 i a (((nI Z : Int32).toInt - (0 : Int32).toInt).toNat + 1) (nI 0) b' := by
    rw [← c'.1.z]; exact x3
  have sA : S_X8_guessesAll i a := by
    rw [← c'.1.z] at y1
    exact ⟨x4 y1, trivial⟩
  have eM : X4_makeFor pi pa gs ch i0 a0 = X4_makeFor_L36 pi pa gs ch i0 a0 ((((nI Z : Int32)).toInt - (0 : Int32).toInt).toNat + 1) (-5) (nI 0) (nI Z) (nI (2 * L)) gs (X3_putAll 60 ch (-5)) := by
    have e2 : X0_pages (i0 0) (a0 0) (a0 1) (a0 2) = nI (2 * L) := by
      unfold X0_pages
      rw [c.l, show (2 : Int32) = nI 2 from rfl, pk_mul]
    rw [← e2, ← c.z]; rfl
  rw [eA, eM]
  exact ⟨sA, fun j h5 h6 => (y2 j h5 h6).trans (x1 j h6), gs', ch', y3, y4⟩
end GUESS
