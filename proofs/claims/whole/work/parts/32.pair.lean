/-! ===== what lies open, gutters, pictures ===== -/
theorem lq_oL0 {f : Nat → Int32} (h : f 1 = nI 0) : X8_openOn f 0 = (-5) := by
  unfold X8_openOn
  rw [if_pos rfl, if_pos (show f 1 = 0 from h)]
theorem lq_oL1 {F : Nat} {f : Nat → Int32} (h : f 1 = nI F) (h0 : 0 < F) (hF : F ≤ 30) : X8_openOn f 0 = nI (2 * F - 1) := by
  unfold X8_openOn
  rw [if_pos rfl, h, if_neg (nI_ne0 h0 (by omega)), show (2 : Int32) = nI 2 from rfl, pk_mul]
  obtain ⟨k, hk⟩ : ∃ k, 2 * F = k + 1 := ⟨2 * F - 1, by omega⟩
  rw [hk]; exact nI_pred k
theorem lq_oR0 {L F : Nat} {f : Nat → Int32} (h : f 1 = nI F) (hL : f 0 = nI L) (h0 : F = L) : X8_openOn f 1 = (-5) := by
  unfold X8_openOn
  rw [if_neg (by decide), if_pos (by rw [h, hL, h0])]
theorem lq_oR1 {L F : Nat} {f : Nat → Int32} (h : f 1 = nI F) (hL : f 0 = nI L) (h0 : F < L) (hF : L ≤ 30) : X8_openOn f 1 = nI (2 * F) := by
  unfold X8_openOn
  rw [if_neg (by decide), if_neg (by rw [h, hL]; intro z; have := (nI_eq (a := F) (b := L) (by omega) (by omega)).mp z; omega), h, show (2 : Int32) = nI 2 from rfl, pk_mul]
theorem lq_cL0 {i : Nat → Int32} {a : Nat → Nat → Int32} (h : i 1 = nI 0) : X6_openOnLeft i a = (-5) := by
  unfold X6_openOnLeft
  rw [if_pos (by rw [h]; decide)]
theorem lq_cL1 {F : Nat} {i : Nat → Int32} {a : Nat → Nat → Int32} (h : i 1 = nI F) (h0 : 0 < F) (hF : F ≤ 30) : X6_openOnLeft i a = nI (2 * F - 1) := by
  unfold X6_openOnLeft
  rw [h, if_neg (nI_nle h0 (by omega)), show (2 : Int32) = nI 2 from rfl, pk_mul]
  obtain ⟨k, hk⟩ : ∃ k, 2 * F = k + 1 := ⟨2 * F - 1, by omega⟩
  rw [hk]; exact nI_pred k
theorem lq_onR {L F : Nat} {i : Nat → Int32} {a : Nat → Nat → Int32} (h : i 1 = nI F) (hL : i 0 = nI L) (h0 : F ≤ L) : X6_leavesOnRight i a = nI (L - F) := by
  unfold X6_leavesOnRight
  rw [h, hL, pk_sub h0]
theorem lq_cR0 {L F : Nat} {i : Nat → Int32} {a : Nat → Nat → Int32} (h : i 1 = nI F) (hL : i 0 = nI L) (h0 : F = L) : X6_openOnRight i a = (-5) := by
  unfold X6_openOnRight
  rw [lq_onR h hL (by omega), h0, Nat.sub_self]
  exact if_pos (by decide)
theorem lq_cR1 {L F : Nat} {i : Nat → Int32} {a : Nat → Nat → Int32} (h : i 1 = nI F) (hL : i 0 = nI L) (h0 : F < L) (hF : L ≤ 30) : X6_openOnRight i a = nI (2 * F) := by
  unfold X6_openOnRight
  rw [lq_onR h hL (by omega)]
  refine (if_neg (nI_nle (by omega) (by omega))).trans ?_
  rw [h, show (2 : Int32) = nI 2 from rfl, pk_mul]
theorem lq_par (p : Nat) (hp : p < 1000) : X7_isRightPage (nI p) = nI (1 - p % 2) := by
  unfold X7_isRightPage
  rw [show (2 : Int32) = nI 2 from rfl, pk_rem (by omega) (by decide) (by decide)]
  by_cases h : p % 2 = 0
  · rw [h, if_pos (show nI 0 = 0 from nI_0)]; rfl
  · have h1 : p % 2 = 1 := by omega
    rw [h1, if_neg (by decide)]; rfl
/-- whether a page's gutter is good, on both sides -/
theorem lq_good {L F Z : Nat} {i : Nat → Int32} {a : Nat → Nat → Int32} {f : Nat → Int32} (h : RS L F Z i a f) (p : Nat) (hp : p < 2 * L) :
    X6_gutterIsGood i a (nI p) = X8_isGood f (nI (if p % 2 = 0 then L - p / 2 else p / 2 + 1)) := by
  have hL := h.1.1
  have r0 : X3_at 3 (a 7) 0 = f 9 := (lq_at (k := 0) (by decide) (by decide)).trans (h.2.2.1 0 (by decide))
  have d2 : nI p / 2 = nI (p / 2) := pk_div (d := 2) (by omega) (by decide) (by decide)
  have key : ∀ v : Int32, (if f 9 ≤ v then (1 : Int32) else if (2 * f 9) ≤ i 0 then 0 else 1) = X8_isGood f v := by
    intro v
    unfold X8_isGood
    rw [h.i 0 (by decide)]
  unfold X6_gutterIsGood
  rw [lq_par p (by omega), r0, d2]
  by_cases c : p % 2 = 0
  · rw [c, if_pos rfl]
    refine (if_neg (by decide)).trans ?_
    have e : i 0 - nI (p / 2) = nI (L - p / 2) := by rw [h.l, pk_sub (by omega)]
    dsimp only
    rw [e]
    exact key _
  · have c1 : p % 2 = 1 := by omega
    rw [c1, if_neg (show ¬ (1 : Nat) = 0 by decide)]
    refine (if_pos (by decide)).trans ?_
    dsimp only
    rw [show (1 : Int32) = nI 1 from rfl, nI_add]
    exact key _
theorem lq_good01 (f : Nat → Int32) (v : Int32) : X8_isGood f v = 0 ∨ X8_isGood f v = 1 := by
  unfold X8_isGood
  split
  · exact Or.inr rfl
  · split
    · exact Or.inl rfl
    · exact Or.inr rfl
theorem lq_goodS {f : Nat → Int32} {v : Int32} : S_X8_isGood f v := ⟨fun _ => trivial, fun _ => ⟨fun _ => trivial, fun _ => trivial⟩⟩
theorem lq_openS {f : Nat → Int32} {v : Int32} : S_X8_openOn f v := ⟨fun _ => ⟨fun _ => trivial, fun _ => trivial⟩, fun _ => ⟨fun _ => trivial, fun _ => trivial⟩⟩
/-- the row with a picture more -/
def tk (f : Nat → Int32) (Z : Nat) (p num g side : Int32) : Nat → Int32 := fun k => if k = 2 then nI (Z + 1) else if k = 136 + 5 * Z then side else if k = 135 + 5 * Z then f 3 else if k = 134 + 5 * Z then g else if k = 133 + 5 * Z then num else if k = 132 + 5 * Z then p else f k
theorem lq_tk {f : Nat → Int32} {Z : Nat} {p num g side x3 x2 : Int32} {A0 A1 A2 A3 A4 : Nat} (h0 : A0 = 132 + 5 * Z) (h1 : A1 = 133 + 5 * Z) (h2 : A2 = 134 + 5 * Z) (h3 : A3 = 135 + 5 * Z) (h4 : A4 = 136 + 5 * Z) (hx3 : x3 = f 3) (hx2 : x2 = nI (Z + 1)) :
    upd (upd (upd (upd (upd (upd f A0 p) A1 num) A2 g) A3 x3) A4 side) 2 x2 = tk f Z p num g side := by
  subst h0; subst h1; subst h2; subst h3; subst h4; subst hx3; subst hx2
  funext k
  rfl
def tkn (g num : Int32) : Int32 := if g = 0 then (if num = (-5) then num else num / 10) else num
theorem lq_takes {L F Z : Nat} {f : Nat → Int32} (hW : WF L F Z f) (hZ : Z < 80) {p : Nat} (hp : p < 60) {side : Int32} (hs : side = 0 ∨ side = 1) {v : Int32} (hv : (if side = 0 then f 1 else f 0 - f 1) = v) :
    X8_takes f (nI p) side = tk f Z (nI p) (tkn (X8_isGood f v) (f (72 + p))) (X8_isGood f v) side ∧ S_X8_takes f (nI p) side := by
  have h2 : f 2 = nI Z := hW.z
  have hat : (132 : Int32) + 5 * f 2 = nI (132 + 5 * Z) := by rw [h2, show (5 : Int32) = nI 5 from rfl, pk_mul, show (132 : Int32) = nI 132 from rfl, nI_add]
  have ix : ∀ j : Nat, j < 5 → ∀ c : Int32, c = nI j → ((132 + 5 * f 2) + c).toNatClampNeg = 132 + 5 * Z + j := by
    intro j hj c hc
    rw [hat, hc, nI_add]; exact nI_clamp (by omega)
  have vx : ∀ j : Nat, j < 5 → ∀ c : Int32, c = nI j → vp_in ((132 + 5 * f 2) + c) 532 := by
    intro j hj c hc
    rw [hat, hc, nI_add]; exact vp_in_nI (by omega) (by decide)
  have i72 : (72 + nI p : Int32).toNatClampNeg = 72 + p := lq_c (m := 72) rfl (by omega)
  have v72 : vp_in (72 + nI p) 532 := lq_v (m := 72) rfl (by omega) (by decide)
  have e0 := ix 0 (by decide) 0 rfl
  have e1 := ix 1 (by decide) 1 rfl
  have e2 := ix 2 (by decide) 2 rfl
  have e3 := ix 3 (by decide) 3 rfl
  have e4 := ix 4 (by decide) 4 rfl
  have w0 := vx 0 (by decide) 0 rfl
  have w1 := vx 1 (by decide) 1 rfl
  have w2 := vx 2 (by decide) 2 rfl
  have w3 := vx 3 (by decide) 3 rfl
  have w4 := vx 4 (by decide) 4 rfl
  have mk : ∀ (num g : Int32), upd (upd (upd (upd (upd (upd f ((132 + 5 * f 2) + 0).toNatClampNeg (nI p)) ((132 + 5 * f 2) + 1).toNatClampNeg num) ((132 + 5 * f 2) + 2).toNatClampNeg g) ((132 + 5 * f 2) + 3).toNatClampNeg (upd (upd (upd f ((132 + 5 * f 2) + 0).toNatClampNeg (nI p)) ((132 + 5 * f 2) + 1).toNatClampNeg num) ((132 + 5 * f 2) + 2).toNatClampNeg g 3)) ((132 + 5 * f 2) + 4).toNatClampNeg side) 2 ((upd (upd (upd (upd (upd f ((132 + 5 * f 2) + 0).toNatClampNeg (nI p)) ((132 + 5 * f 2) + 1).toNatClampNeg num) ((132 + 5 * f 2) + 2).toNatClampNeg g) ((132 + 5 * f 2) + 3).toNatClampNeg (upd (upd (upd f ((132 + 5 * f 2) + 0).toNatClampNeg (nI p)) ((132 + 5 * f 2) + 1).toNatClampNeg num) ((132 + 5 * f 2) + 2).toNatClampNeg g 3)) ((132 + 5 * f 2) + 4).toNatClampNeg side 2) + 1) = tk f Z (nI p) num g side := by
    intro num g
    rw [e0, e1, e2, e3, e4]
    refine lq_tk (by omega) (by omega) (by omega) (by omega) (by omega) ?_ ?_
    · rw [pk_un (by omega), pk_un (by omega), pk_un (by omega)]
    · rw [pk_un (by omega), pk_un (by omega), pk_un (by omega), pk_un (by omega), pk_un (by omega), h2, nI_1]
  refine ⟨?_, ?_⟩
  · unfold X8_takes
    rcases hs with hs | hs <;> subst hs
    · have hv' : f 1 = v := by rw [← hv]; exact (if_pos rfl).symm
      refine (if_pos rfl).trans ?_
      rw [hv', i72]
      dsimp only
      unfold tkn
      by_cases c1 : f (72 + p) = (-5)
      · rw [if_pos c1]
        rcases lq_good01 f v with g | g <;> rw [g]
        · rw [if_pos rfl, if_pos rfl, if_pos c1]; exact mk _ _
        · rw [if_neg (by decide), if_neg (by decide)]; exact mk _ _
      · rw [if_neg c1]
        rcases lq_good01 f v with g | g <;> rw [g]
        · rw [if_pos rfl, if_pos rfl, if_pos rfl, if_neg c1]; exact mk _ _
        · rw [if_neg (by decide), if_neg (by decide), if_neg (by decide)]; exact mk _ _
    · have hv' : f 0 - f 1 = v := by rw [← hv]; exact (if_neg (by decide)).symm
      refine (if_neg (by decide)).trans ?_
      rw [hv', i72]
      dsimp only
      unfold tkn
      by_cases c1 : f (72 + p) = (-5)
      · rw [if_pos c1]
        rcases lq_good01 f v with g | g <;> rw [g]
        · rw [if_pos rfl, if_pos rfl, if_pos c1]; exact mk _ _
        · rw [if_neg (by decide), if_neg (by decide)]; exact mk _ _
      · rw [if_neg c1]
        rcases lq_good01 f v with g | g <;> rw [g]
        · rw [if_pos rfl, if_pos rfl, if_pos rfl, if_neg c1]; exact mk _ _
        · rw [if_neg (by decide), if_neg (by decide), if_neg (by decide)]; exact mk _ _
  · unfold S_X8_takes
    repeat' first | with_reducible exact trivial | with_reducible exact lq_goodS | with_reducible exact v72 | with_reducible exact w0 | with_reducible exact w1 | with_reducible exact w2 | with_reducible exact w3 | with_reducible exact w4 | with_reducible apply And.intro | (intro h; first | subst h | skip)
theorem lq_wtk {L F Z : Nat} {f : Nat → Int32} (hW : WF L F Z f) (hZ : Z < 80) {p : Nat} (hp : p < 60) {num g side : Int32} (hg : g = 0 ∨ g = 1) (hs : side = nI (1 - p % 2)) : WF L F (Z + 1) (tk f Z (nI p) num g side) := by
  obtain ⟨a1, a2, a3, a4, a5, a6, ⟨q, s, u, o, b1, b2, b3, b4, b5, b6, b7, b8, b9, b10⟩, a8⟩ := hW
  have lo : ∀ k, k < 132 → k ≠ 2 → tk f Z (nI p) num g side k = f k := by
    intro k hk h2
    unfold tk
    rw [if_neg h2, if_neg (by omega), if_neg (by omega), if_neg (by omega), if_neg (by omega), if_neg (by omega)]
  refine ⟨a1, a2, by omega, (lo 0 (by omega) (by omega)).trans a4, (lo 1 (by omega) (by omega)).trans a5, rfl, ⟨q, s, u, o, b1, b2, b3, b4, b5, (lo 7 (by omega) (by omega)).trans b6, (lo 9 (by omega) (by omega)).trans b7, (lo 8 (by omega) (by omega)).trans b8, (lo 11 (by omega) (by omega)).trans b9, ?_⟩, fun k hk => ?_⟩
  · rw [lo 10 (by omega) (by omega)]; exact b10
  · by_cases hkz : k = Z
    · subst hkz
      refine ⟨?_, p, hp, ?_, ?_⟩
      · unfold tk
        rw [if_neg (by omega), if_neg (by omega), if_neg (by omega), if_pos rfl]; exact hg
      · unfold tk
        rw [if_neg (by omega), if_neg (by omega), if_neg (by omega), if_neg (by omega), if_neg (by omega), if_pos rfl]
      · unfold tk
        rw [if_neg (by omega), if_pos rfl]; exact hs
    · have hi : ∀ j, j < 5 → tk f Z (nI p) num g side (132 + j + 5 * k) = f (132 + j + 5 * k) := by
        intro j hj
        unfold tk
        rw [if_neg (by omega), if_neg (by omega), if_neg (by omega), if_neg (by omega), if_neg (by omega), if_neg (by omega)]
      obtain ⟨c1, gg, c2, c3, c4⟩ := a8 k (by omega)
      refine ⟨?_, gg, c2, (hi 0 (by omega)).trans c3, (hi 4 (by omega)).trans c4⟩
      rw [hi 2 (by omega)]; exact c1
/-- a picture is taken on both sides -/
theorem lq_take {L F Z : Nat} {i : Nat → Int32} {a : Nat → Nat → Int32} {f : Nat → Int32} (h : RS L F Z i a f) (hZ : Z < 80) {p : Nat} (hp : p < 2 * L) {side v : Int32} (hs : side = nI (1 - p % 2))
    (hv : (if side = 0 then f 1 else f 0 - f 1) = v) (hvp : v = nI (if p % 2 = 0 then L - p / 2 else p / 2 + 1)) :
    S_X8_takes f (nI p) side ∧ RS L F (Z + 1) (X6_takePicture i a (nI p)).1 (X6_takePicture i a (nI p)).2 (X8_takes f (nI p) side) ∧ (∀ k, k < 9 → k ≠ 2 → (X6_takePicture i a (nI p)).1 k = i k) := by
  have hL := h.1.1
  have hs' : side = 0 ∨ side = 1 := by
    rcases Nat.mod_two_eq_zero_or_one p with e | e
    · right; rw [hs, e]; rfl
    · left; rw [hs, e]; rfl
  obtain ⟨e1, e2⟩ := lq_takes h.1 hZ (p := p) (by omega) hs' hv
  have eg : X6_gutterIsGood i a (nI p) = X8_isGood f v := by rw [lq_good h p hp, hvp]
  have en : X3_at 60 (a 2) (nI p) = f (72 + p) := (lq_at (by omega) (by decide)).trans (h.2.2.2.2.1 p hp)
  have g01 := lq_good01 f v
  have an : X7_asNumber (X8_isGood f v) = X8_isGood f v := by
    rcases g01 with g | g <;> rw [g] <;> rfl
  have ad : ∀ num : Int32, X5_add (i 2) (a 3) (a 4) (a 5) (a 6) (nI p) num (X8_isGood f v) (i 3) = (nI (Z + 1), upd (a 3) Z (nI p), upd (a 4) Z num, upd (a 5) Z (X8_isGood f v), upd (a 6) Z (i 3)) := by
    intro num
    unfold X5_add
    rw [h.z]
    refine (if_pos (show nI Z < (80 : Int32) from nI_lt (b := 80) hZ (by decide))).trans ?_
    dsimp only
    rw [an, lq_put hZ (by decide), lq_put hZ (by decide), lq_put hZ (by decide), lq_put hZ (by decide), nI_1]
  have ec : X6_takePicture i a (nI p) = (upd i 2 (nI (Z + 1)), va_up (va_up (va_up (va_up a 3 (upd (a 3) Z (nI p))) 4 (upd (a 4) Z (tkn (X8_isGood f v) (f (72 + p))))) 5 (upd (a 5) Z (X8_isGood f v))) 6 (upd (a 6) Z (i 3))) := by
    unfold X6_takePicture
    rw [eg, en]
    dsimp only
    unfold tkn
    rcases g01 with g | g
    · rw [g] at ad ⊢
      rw [if_pos rfl, if_pos rfl]
      by_cases c : f (72 + p) = (-5)
      · rw [if_pos c, if_pos c, ad]
      · rw [if_neg c, if_neg c, ad]
    · rw [g] at ad ⊢
      rw [if_neg (by decide), if_neg (by decide), ad]
  rw [ec, e1]
  have hlo : ∀ k, k < 132 → k ≠ 2 → tk f Z (nI p) (tkn (X8_isGood f v) (f (72 + p))) (X8_isGood f v) side k = f k := by
    intro k hk h2
    unfold tk
    rw [if_neg h2, if_neg (by omega), if_neg (by omega), if_neg (by omega), if_neg (by omega), if_neg (by omega)]
  refine ⟨e2, ⟨lq_wtk h.1 hZ (by omega) g01 hs, fun k hk => ?_, fun k hk => ?_, fun k hk => ?_, fun k hk => ?_, fun k hk => ?_⟩, fun k hk h2 => pk_un h2⟩
  · by_cases k2 : k = 2
    · subst k2; rfl
    · show upd i 2 (nI (Z + 1)) k = _
      rw [pk_un k2, hlo k (by omega) k2]; exact h.i k hk
  · rw [hlo (9 + k) (by omega) (by omega)]; exact h.2.2.1 k hk
  · rw [hlo (12 + k) (by omega) (by omega), hlo (42 + k) (by omega) (by omega)]; exact h.2.2.2.1 k hk
  · rw [hlo (72 + k) (by omega) (by omega)]; exact h.2.2.2.2.1 k hk
  · by_cases hkz : k = Z
    · subst hkz
      unfold tk
      refine ⟨?_, ?_, ?_, ?_⟩
      · rw [if_neg (by omega), if_neg (by omega), if_neg (by omega), if_neg (by omega), if_neg (by omega), if_pos rfl]; exact pk_us
      · rw [if_neg (by omega), if_neg (by omega), if_neg (by omega), if_neg (by omega), if_pos rfl]; exact pk_us
      · rw [if_neg (by omega), if_neg (by omega), if_neg (by omega), if_pos rfl]; exact pk_us
      · rw [if_neg (by omega), if_neg (by omega), if_pos rfl]; exact pk_us.trans (h.i 3 (by decide))
    · have hi : ∀ j, j < 5 → tk f Z (nI p) (tkn (X8_isGood f v) (f (72 + p))) (X8_isGood f v) side (132 + j + 5 * k) = f (132 + j + 5 * k) := by
        intro j hj
        unfold tk
        rw [if_neg (by omega), if_neg (by omega), if_neg (by omega), if_neg (by omega), if_neg (by omega), if_neg (by omega)]
      obtain ⟨c1, c2, c3, c4⟩ := h.2.2.2.2.2 k (by omega)
      refine ⟨?_, ?_, ?_, ?_⟩
      · exact (pk_un hkz).trans (c1.trans (hi 0 (by omega)).symm)
      · exact (pk_un hkz).trans (c2.trans (hi 1 (by omega)).symm)
      · exact (pk_un hkz).trans (c3.trans (hi 2 (by omega)).symm)
      · exact (pk_un hkz).trans (c4.trans (hi 3 (by omega)).symm)
theorem lq_w3 {L F Z : Nat} {f : Nat → Int32} {v : Int32} (h : WF L F Z f) : WF L F Z (upd f 3 v) := by
  have lo : ∀ k, k ≠ 3 → upd f 3 v k = f k := fun k hk => pk_un hk
  obtain ⟨a1, a2, a3, a4, a5, a6, ⟨q, s, u, o, b1, b2, b3, b4, b5, b6, b7, b8, b9, b10⟩, a8⟩ := h
  refine ⟨a1, a2, a3, (lo 0 (by omega)).trans a4, (lo 1 (by omega)).trans a5, (lo 2 (by omega)).trans a6, ⟨q, s, u, o, b1, b2, b3, b4, b5, (lo 7 (by omega)).trans b6, (lo 9 (by omega)).trans b7, (lo 8 (by omega)).trans b8, (lo 11 (by omega)).trans b9, ?_⟩, fun k hk => ?_⟩
  · rw [lo 10 (by omega)]; exact b10
  · rw [lo (134 + 5 * k) (by omega), lo (132 + 5 * k) (by omega), lo (136 + 5 * k) (by omega)]; exact a8 k hk
theorem lq_r3 {L F Z : Nat} {i : Nat → Int32} {a : Nat → Nat → Int32} {f : Nat → Int32} (h : RS L F Z i a f) : RS L F Z (upd i 3 (i 3 + 1)) a (upd f 3 (f 3 + 1)) := by
  have lo : ∀ k, k ≠ 3 → upd f 3 (f 3 + 1) k = f k := fun k hk => pk_un hk
  refine ⟨lq_w3 h.1, fun k hk => ?_, fun k hk => ?_, fun k hk => ?_, fun k hk => ?_, fun k hk => ?_⟩
  · by_cases k3 : k = 3
    · subst k3; show i 3 + 1 = f 3 + 1; rw [h.i 3 hk]
    · rw [pk_un k3, lo k k3]; exact h.i k hk
  · rw [lo _ (by omega)]; exact h.2.2.1 k hk
  · rw [lo _ (by omega), lo _ (by omega)]; exact h.2.2.2.1 k hk
  · rw [lo _ (by omega)]; exact h.2.2.2.2.1 k hk
  · rw [lo _ (by omega), lo _ (by omega), lo _ (by omega), lo _ (by omega)]; exact h.2.2.2.2.2 k hk
def lq_n (L F : Nat) : Nat := (if 0 < F then 1 else 0) + (if F < L then 1 else 0)
theorem lq_S2 {x : Int32} {P : Int32 → Prop} (h : P x) : ∀ z, z = x → P z := fun _ hz => hz ▸ h
theorem lq_S3 {x : Nat → Int32} {P : (Nat → Int32) → Prop} (h : P x) : ∀ z, z = x → P z := fun _ hz => hz ▸ h
/-- the reference's pictures of what lies open, whether there is room or not -/
theorem lq_shotsW {L F Z : Nat} {f : Nat → Int32} (hW : WF L F Z f) (hL0 : 0 < L) :
    S_X8_shots f ∧ (X8_shots f).1 = nI (lq_n L F) ∧ ∃ Z', WF L F Z' (X8_shots f).2 := by
  have hL := hW.1
  have hF := hW.2.1
  have hZ := hW.2.2.1
  have goL : ∀ z : Nat, z < 80 → ∀ g, WF L F z g → 0 < F → X8_takes g (nI (2 * F - 1)) 0 = tk g z (nI (2 * F - 1)) (tkn (X8_isGood g (g 1)) (g (72 + (2 * F - 1)))) (X8_isGood g (g 1)) 0 ∧ S_X8_takes g (nI (2 * F - 1)) 0 ∧ WF L F (z + 1) (X8_takes g (nI (2 * F - 1)) 0) := by
    intro z hz g hg h0
    obtain ⟨e1, e2⟩ := lq_takes hg hz (p := 2 * F - 1) (by omega) (side := 0) (Or.inl rfl) (v := g 1) (if_pos rfl)
    exact ⟨e1, e2, by rw [e1]; exact lq_wtk hg hz (by omega) (lq_good01 _ _) (by rw [show 1 - (2 * F - 1) % 2 = 0 by omega]; rfl)⟩
  have goR : ∀ z : Nat, z < 80 → ∀ g, WF L F z g → F < L → S_X8_takes g (nI (2 * F)) 1 ∧ WF L F (z + 1) (X8_takes g (nI (2 * F)) 1) := by
    intro z hz g hg h0
    obtain ⟨e1, e2⟩ := lq_takes hg hz (p := 2 * F) (by omega) (side := 1) (Or.inr rfl) (v := g 0 - g 1) (if_neg (by decide))
    exact ⟨e2, by rw [e1]; exact lq_wtk hg hz (by omega) (lq_good01 _ _) (by rw [show 1 - (2 * F) % 2 = 1 by omega]; rfl)⟩
  have n5 : ∀ k : Nat, k < 100 → ¬ nI k = (-5 : Int32) := by
    intro k hk z
    have := congrArg Int32.toInt z
    rw [nI_toInt (by omega)] at this
    have h5 : (-5 : Int32).toInt = -5 := by decide
    omega
  unfold X8_shots S_X8_shots
  by_cases c0 : F = 0
  · subst c0
    have o0 : X8_openOn f 0 = (-5) := lq_oL0 hW.f
    have oR : X8_openOn f 1 = nI (2 * 0) := lq_oR1 hW.f hW.l hL0 hL
    have eN : lq_n L 0 = 1 := by unfold lq_n; rw [if_neg (by decide), if_pos hL0]
    rw [eN]
    have d1 : ¬ X8_openOn f 1 = (-5) := by rw [oR]; exact n5 _ (by omega)
    by_cases c8 : Z < 80
    · have e8 : ¬ (80 : Int32) ≤ f 2 := by rw [hW.z]; exact nI_ge (b := 80) c8 (by decide)
      obtain ⟨g1, g2⟩ := goR Z c8 f hW hL0
      refine ⟨?_, ?_⟩
      · refine ⟨lq_openS, fun r hr => ⟨fun _ => ⟨lq_openS, fun r1 hr1 => ⟨fun _ => trivial, fun _ => ⟨fun _ => trivial, fun _ => ⟨by rw [hr1, oR]; exact g1, fun _ _ => trivial⟩⟩⟩⟩, fun q => absurd (hr.trans o0) q⟩⟩
      · rw [o0]
        dsimp only
        rw [if_pos rfl, if_neg d1, if_neg e8, oR]
        exact ⟨rfl, Z + 1, lq_w3 g2⟩
    · have e8 : (80 : Int32) ≤ f 2 := by rw [hW.z]; exact nI_le (a := 80) (by omega) (by omega)
      refine ⟨?_, ?_⟩
      · refine ⟨lq_openS, fun r hr => ⟨fun _ => ⟨lq_openS, fun r1 hr1 => ⟨fun _ => trivial, fun _ => ⟨fun _ => trivial, fun q => absurd e8 q⟩⟩⟩, fun q => absurd (hr.trans o0) q⟩⟩
      · rw [o0]
        dsimp only
        rw [if_pos rfl, if_neg d1, if_pos e8]
        exact ⟨rfl, Z, lq_w3 hW⟩
  · have hF0 : 0 < F := by omega
    have oL : X8_openOn f 0 = nI (2 * F - 1) := lq_oL1 hW.f hF0 (by omega)
    have dL : ¬ X8_openOn f 0 = (-5) := by rw [oL]; exact n5 _ (by omega)
    by_cases c1 : F = L
    · have eN : lq_n L F = 1 := by unfold lq_n; rw [if_pos hF0, if_neg (by omega)]
      rw [eN]
      by_cases c8 : Z < 80
      · have e8 : ¬ (80 : Int32) ≤ f 2 := by rw [hW.z]; exact nI_ge (b := 80) c8 (by decide)
        obtain ⟨g0, g1, g2⟩ := goL Z c8 f hW hF0
        have oR : X8_openOn (X8_takes f (nI (2 * F - 1)) 0) 1 = (-5) := lq_oR0 g2.f g2.l c1
        refine ⟨?_, ?_⟩
        · refine ⟨lq_openS, fun r hr => ⟨fun q => absurd (hr.symm.trans q) dL, fun _ => ⟨fun q => absurd q e8, fun _ => ⟨by rw [hr, oL]; exact g1, fun x hx => ⟨lq_openS, fun r1 hr1 => ⟨fun _ => trivial, fun q => absurd (by rw [hr1, hx, hr, oL]; exact oR) q⟩⟩⟩⟩⟩⟩
        · dsimp only
          rw [if_neg dL, if_neg e8, oL, oR, if_pos rfl]
          exact ⟨rfl, Z + 1, lq_w3 g2⟩
      · have e8 : (80 : Int32) ≤ f 2 := by rw [hW.z]; exact nI_le (a := 80) (by omega) (by omega)
        have oR : X8_openOn f 1 = (-5) := lq_oR0 hW.f hW.l c1
        refine ⟨?_, ?_⟩
        · refine ⟨lq_openS, fun r hr => ⟨fun q => absurd (hr.symm.trans q) dL, fun _ => ⟨fun _ => ⟨lq_openS, fun r1 hr1 => ⟨fun _ => trivial, fun q => absurd (hr1.trans oR) q⟩⟩, fun q => absurd e8 q⟩⟩⟩
        · dsimp only
          rw [if_neg dL, if_pos e8, oR, if_pos rfl]
          exact ⟨rfl, Z, lq_w3 hW⟩
    · have hFL : F < L := by omega
      have eN : lq_n L F = 2 := by unfold lq_n; rw [if_pos hF0, if_pos hFL]
      rw [eN]
      by_cases c8 : Z < 80
      · have e8 : ¬ (80 : Int32) ≤ f 2 := by rw [hW.z]; exact nI_ge (b := 80) c8 (by decide)
        obtain ⟨g0, g1, g2⟩ := goL Z c8 f hW hF0
        have oR : X8_openOn (X8_takes f (nI (2 * F - 1)) 0) 1 = nI (2 * F) := lq_oR1 g2.f g2.l hFL hL
        have dR : ¬ X8_openOn (X8_takes f (nI (2 * F - 1)) 0) 1 = (-5) := by rw [oR]; exact n5 _ (by omega)
        by_cases c9 : Z + 1 < 80
        · have e9 : ¬ (80 : Int32) ≤ X8_takes f (nI (2 * F - 1)) 0 2 := by rw [g2.z]; exact nI_ge (b := 80) c9 (by decide)
          obtain ⟨k1, k2⟩ := goR (Z + 1) c9 _ g2 hFL
          refine ⟨?_, ?_⟩
          · refine ⟨lq_openS, fun r hr => ⟨fun q => absurd (hr.symm.trans q) dL, fun _ => ⟨fun q => absurd q e8, fun _ => ⟨by rw [hr, oL]; exact g1, fun x hx => ⟨lq_openS, fun r1 hr1 => ⟨fun _ => trivial, fun _ => ⟨fun _ => trivial, fun _ => ⟨by rw [hr1, hx, hr, oL, oR]; exact k1, fun _ _ => trivial⟩⟩⟩⟩⟩⟩⟩⟩
          · dsimp only
            rw [if_neg dL, if_neg e8, oL, if_neg dR, if_neg e9, oR]
            exact ⟨rfl, Z + 1 + 1, lq_w3 k2⟩
        · have e9 : (80 : Int32) ≤ X8_takes f (nI (2 * F - 1)) 0 2 := by rw [g2.z]; exact nI_le (a := 80) (by omega) (by omega)
          refine ⟨?_, ?_⟩
          · refine ⟨lq_openS, fun r hr => ⟨fun q => absurd (hr.symm.trans q) dL, fun _ => ⟨fun q => absurd q e8, fun _ => ⟨by rw [hr, oL]; exact g1, fun x hx => ⟨lq_openS, fun r1 hr1 => ⟨fun _ => trivial, fun _ => ⟨fun _ => trivial, fun q => absurd (by rw [hx, hr, oL]; exact e9) q⟩⟩⟩⟩⟩⟩⟩
          · dsimp only
            rw [if_neg dL, if_neg e8, oL, if_neg dR, if_pos e9]
            exact ⟨rfl, Z + 1, lq_w3 g2⟩
      · have e8 : (80 : Int32) ≤ f 2 := by rw [hW.z]; exact nI_le (a := 80) (by omega) (by omega)
        have oR : X8_openOn f 1 = nI (2 * F) := lq_oR1 hW.f hW.l hFL hL
        have dR : ¬ X8_openOn f 1 = (-5) := by rw [oR]; exact n5 _ (by omega)
        refine ⟨?_, ?_⟩
        · refine ⟨lq_openS, fun r hr => ⟨fun q => absurd (hr.symm.trans q) dL, fun _ => ⟨fun _ => ⟨lq_openS, fun r1 hr1 => ⟨fun _ => trivial, fun _ => ⟨fun _ => trivial, fun q => absurd e8 q⟩⟩⟩, fun q => absurd e8 q⟩⟩⟩
        · dsimp only
          rw [if_neg dL, if_pos e8, if_neg dR, if_pos e8]
          exact ⟨rfl, Z, lq_w3 hW⟩
theorem lq_open5 (k : Nat) (hk : k < 100) : ¬ nI k = (-5 : Int32) := by
  intro z
  have := congrArg Int32.toInt z
  rw [nI_toInt (by omega)] at this
  have h5 : (-5 : Int32).toInt = -5 := by decide
  omega
theorem lq_pagesOpen {L F : Nat} {i : Nat → Int32} {a : Nat → Nat → Int32} (hL : i 0 = nI L) (hF : i 1 = nI F) (h1 : F ≤ L) (h2 : L ≤ 30) : X6_pagesOpen i a = nI (lq_n L F) := by
  unfold X6_pagesOpen lq_n
  have z0 : X7_asNumber 0 = 0 := rfl
  have z1 : X7_asNumber 1 = 1 := rfl
  by_cases c0 : F = 0
  · subst c0
    rw [lq_cL0 hF, if_pos rfl, if_neg (show ¬ (0 : Nat) < 0 by decide)]
    dsimp only
    by_cases c1 : 0 < L
    · rw [lq_cR1 hF hL c1 h2, if_neg (lq_open5 _ (by omega)), if_pos c1]; rfl
    · rw [lq_cR0 hF hL (by omega), if_pos rfl, if_neg c1]; rfl
  · have d := lq_cL1 (a := a) hF (by omega) (by omega)
    rw [d, if_neg (lq_open5 _ (by omega)), if_pos (show 0 < F by omega)]
    dsimp only
    by_cases c1 : F < L
    · rw [lq_cR1 hF hL c1 h2, if_neg (lq_open5 _ (by omega)), if_pos c1]; rfl
    · rw [lq_cR0 hF hL (by omega), if_pos rfl, if_neg c1]; rfl
/-- pictures of what lies open, with room -/
theorem lq_pair {L F Z : Nat} {i : Nat → Int32} {a : Nat → Nat → Int32} {f : Nat → Int32} (h : RS L F Z i a f) (hL0 : 0 < L) (hr : Z + lq_n L F ≤ 80) :
    (X6_takePair i a).1 = nI (lq_n L F) ∧ RS L F (Z + lq_n L F) (X6_takePair i a).2.1 (X6_takePair i a).2.2 (X8_shots f).2 := by
  have hL := h.1.1
  have hFL := h.1.2.1
  have pO : X6_pagesOpen i a = nI (lq_n L F) := lq_pagesOpen h.l h.f hFL hL
  have hs1 : ∀ {Z' : Nat} {j : Nat → Int32} {b : Nat → Nat → Int32} {g : Nat → Int32}, RS L F Z' j b g → Z' < 80 → 0 < F → RS L F (Z' + 1) (X6_takePicture j b (nI (2 * F - 1))).1 (X6_takePicture j b (nI (2 * F - 1))).2 (X8_takes g (nI (2 * F - 1)) 0) := by
    intro Z' j b g hg hz h0
    refine (lq_take hg hz (p := 2 * F - 1) (by omega) (side := 0) (v := g 1) ?_ (if_pos rfl) ?_).2.1
    · rw [show 1 - (2 * F - 1) % 2 = 0 by omega]; rfl
    · rw [hg.1.f, if_neg (by omega)]; congr 1; omega
  have hs2 : ∀ {Z' : Nat} {j : Nat → Int32} {b : Nat → Nat → Int32} {g : Nat → Int32}, RS L F Z' j b g → Z' < 80 → F < L → RS L F (Z' + 1) (X6_takePicture j b (nI (2 * F))).1 (X6_takePicture j b (nI (2 * F))).2 (X8_takes g (nI (2 * F)) 1) := by
    intro Z' j b g hg hz h0
    refine (lq_take hg hz (p := 2 * F) (by omega) (side := 1) (v := g 0 - g 1) ?_ (if_neg (by decide)) ?_).2.1
    · rw [show 1 - (2 * F) % 2 = 1 by omega]; rfl
    · rw [hg.1.f, hg.1.l, pk_sub hFL, if_pos (by omega)]; congr 1; omega
  unfold X6_takePair X8_shots
  rw [pO]
  by_cases c0 : F = 0
  · subst c0
    have eN : lq_n L 0 = 1 := by unfold lq_n; rw [if_neg (by decide), if_pos hL0]
    rw [eN] at hr ⊢
    have o0 : X8_openOn f 0 = (-5) := lq_oL0 h.1.f
    have oR : X8_openOn f 1 = nI (2 * 0) := lq_oR1 h.1.f h.1.l hL0 hL
    have e8 : ¬ (80 : Int32) ≤ f 2 := by rw [h.1.z]; exact nI_ge (b := 80) (by omega) (by decide)
    dsimp only
    rw [lq_cL0 h.f, if_pos rfl, o0, if_pos rfl, lq_cR1 h.f h.l hL0 hL, if_neg (lq_open5 _ (by omega)), oR, if_neg (lq_open5 _ (by omega)), if_neg e8]
    exact ⟨rfl, lq_r3 (hs2 h (by omega) hL0)⟩
  · have hF0 : 0 < F := by omega
    have oL : X8_openOn f 0 = nI (2 * F - 1) := lq_oL1 h.1.f hF0 (by omega)
    by_cases c1 : F = L
    · have eN : lq_n L F = 1 := by unfold lq_n; rw [if_pos hF0, if_neg (by omega)]
      rw [eN] at hr ⊢
      have e8 : ¬ (80 : Int32) ≤ f 2 := by rw [h.1.z]; exact nI_ge (b := 80) (by omega) (by decide)
      have h1 := hs1 h (by omega) hF0
      dsimp only
      rw [lq_cL1 h.f hF0 (by omega), if_neg (lq_open5 _ (by omega)), oL, if_neg (lq_open5 _ (by omega)), if_neg e8, lq_cR0 h1.f h1.l c1, if_pos rfl, lq_oR0 h1.1.f h1.1.l c1, if_pos rfl]
      exact ⟨rfl, lq_r3 h1⟩
    · have hlt : F < L := by omega
      have eN : lq_n L F = 2 := by unfold lq_n; rw [if_pos hF0, if_pos hlt]
      rw [eN] at hr ⊢
      have e8 : ¬ (80 : Int32) ≤ f 2 := by rw [h.1.z]; exact nI_ge (b := 80) (by omega) (by decide)
      have h1 := hs1 h (by omega) hF0
      have e9 : ¬ (80 : Int32) ≤ X8_takes f (nI (2 * F - 1)) 0 2 := by rw [h1.1.z]; exact nI_ge (b := 80) (by omega) (by decide)
      dsimp only
      rw [lq_cL1 h.f hF0 (by omega), if_neg (lq_open5 _ (by omega)), oL, if_neg (lq_open5 _ (by omega)), if_neg e8, lq_cR1 h1.f h1.l hlt hL, if_neg (lq_open5 _ (by omega)), lq_oR1 h1.1.f h1.1.l hlt hL, if_neg (lq_open5 _ (by omega)), if_neg e9]
      exact ⟨rfl, lq_r3 (hs2 h1 (by omega) hlt)⟩
