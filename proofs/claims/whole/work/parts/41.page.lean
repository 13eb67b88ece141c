set_option maxRecDepth 100000
section PAGE
variable {hs z : Int32} {Bh : Nat → Nat → Nat} {Vh : Nat → lt_SV} {i0 : Nat → Int32} {a0 : Nat → Nat → Int32} {i1 : Nat → Int32} {a1 : Nat → Nat → Int32} {i2 : Nat → Int32} {a2 : Nat → Nat → Int32} {len : Int32} {sg : Nat → Int32} {i : Nat → Int32} {a : Nat → Nat → Int32} {pi pa : Int32} {gs ch : Nat → Int32}
theorem RW.guessed (h : RW hs z Vh i0 a0 i2 a2 len sg i a) {b : Nat → Nat → Int32} (hb : ∀ j, j ≠ 5 → j ≠ 6 → b j = a j) : RW hs z Vh i0 a0 i2 a2 len sg i b :=
  h.to rfl rfl rfl (hb 0 (by decide) (by decide)) (hb 2 (by decide) (by decide)) (hb 3 (by decide) (by decide)) (hb 4 (by decide) (by decide))
theorem lq_as01 {r : Int32} (h : r = 0 ∨ r = 1) : X7_asNumber r = (if r = 0 then 0 else 1) := by
  rcases h with h | h <;> subst h <;> rfl
theorem lq_asid {r : Int32} (h : r = 0 ∨ r = 1) : X7_asNumber r = r := by
  rcases h with h | h <;> subst h <;> rfl
theorem lq_01 {r : Int32} (h : r = 0 ∨ r = 1) : (if r = 0 then (0 : Int32) else 1) = r := by
  rcases h with h | h <;> subst h <;> rfl
/-- how many pictures show a page -/
theorem lq_showL {L F Z : Nat} {b : Nat → Nat → Int32} {p : Int32} (c : RS L F Z i0 a0 (b 0)) : ∀ (fu fu' k : Nat) (w : Int32), k ≤ Z → Z - k < fu → Z - k < fu' →
    X5_howManyShow_L4 (nI Z) (a0 3) (a0 4) (a0 5) (a0 6) p fu w (nI k) = X8_shownBy_L4 i b p fu' w (nI k) ∧ S_X8_shownBy_L4 i b p fu' w (nI k) := by
  have hZ := c.1.2.2.1
  intro fu
  induction fu with
  | zero => intro fu' k w _ h; omega
  | succ fu ih =>
    intro fu' k w hk h1 h2
    cases fu' with
    | zero => omega
    | succ fu' =>
      by_cases q : k = Z
      · subst q
        have g1 : nI k ≤ nI k := nI_le (Nat.le_refl _) (by omega)
        have g2 : (b 0) 2 ≤ nI k := by rw [c.1.z]; exact g1
        exact ⟨(if_pos g1).trans (if_pos g2).symm, fun _ => trivial, fun n => absurd g2 n⟩
      · have hk : k < Z := by omega
        have g1 : ¬ nI Z ≤ nI k := nI_ge hk (by omega)
        have g2 : ¬ (b 0) 2 ≤ nI k := by rw [c.1.z]; exact g1
        obtain ⟨o1, s1⟩ := lq_ofP (i := i) (b := b) (k := k) (j := 0) (c := 0) (by omega) (by decide) rfl
        have o1 : X8_ofPicture i b (nI k) 0 = b 0 (132 + 5 * k) := o1
        have n1 : X3_at 80 (a0 3) (nI k) = b 0 (132 + 5 * k) := (lq_at (by omega) (by decide)).trans (c.2.2.2.2.2 k hk).1
        obtain ⟨r1, r2⟩ := ih fu' (k + 1) (w + 1) (by omega) (by omega) (by omega)
        obtain ⟨r3, r4⟩ := ih fu' (k + 1) (w + 0) (by omega) (by omega) (by omega)
        refine ⟨?_, fun n => absurd n g2, fun _ => ⟨s1, fun x hx => ⟨fun _ => ⟨by rw [nI_1]; exact r2, trivial⟩, fun _ => ⟨by rw [nI_1]; exact r4, trivial⟩⟩⟩⟩
        refine (if_neg g1).trans (Eq.trans ?_ (if_neg g2).symm)
        rw [n1, o1]
        dsimp only
        rw [nI_1]
        by_cases y : b 0 (132 + 5 * k) = p
        · rw [if_pos y, if_pos y]; exact r1
        · rw [if_neg y, if_neg y, ← r3, Int32.add_zero]
theorem lq_show {L F Z : Nat} {b : Nat → Nat → Int32} {p : Int32} (c : RS L F Z i0 a0 (b 0)) : X5_howManyShow (i0 2) (a0 3) (a0 4) (a0 5) (a0 6) p = X8_shownBy i b p ∧ S_X8_shownBy i b p := by
  have hZ := c.1.2.2.1
  have f1 : Z - 0 < (((nI Z : Int32)).toInt - (0 : Int32).toInt).toNat + 1 := by rw [nI_toInt (by omega), Int32.toInt_zero]; omega
  obtain ⟨r1, r2⟩ := lq_showL (i := i) (p := p) c _ _ 0 0 (by omega) f1 f1
  unfold X5_howManyShow X8_shownBy S_X8_shownBy
  rw [c.z, c.1.z]
  exact ⟨r1, r2, trivial⟩
theorem lq_doubt {L F Z : Nat} {b : Nat → Nat → Int32} (c : RS L F Z i0 a0 (b 0)) (hj : JG L Z gs ch b Z) {p : Nat} (hp : p < 60) : X4_isDoubtful pi pa gs ch (i0 2) (a0 3) (a0 4) (a0 5) (a0 6) (nI p) = X8_isDoubtful i b (nI p) ∧ S_X8_isDoubtful i b (nI p) ∧ (X8_isDoubtful i b (nI p) = 0 ∨ X8_isDoubtful i b (nI p) = 1) := by
  have hZ := c.1.2.2.1
  obtain ⟨h1, h2⟩ := hj.2 p hp
  have e5 : X3_at 60 ch (nI p) = b 6 p := (lq_at (by omega) (by decide)).trans h1
  have ec : (nI p).toNatClampNeg = p := nI_clamp (by omega)
  have vp : vp_in (nI p) 60 := vp_in_nI hp (by decide)
  unfold X4_isDoubtful X8_isDoubtful S_X8_isDoubtful
  rw [e5, ec]
  dsimp only
  by_cases q : b 6 p = (-5)
  · rw [if_pos q, if_pos q]
    exact ⟨rfl, ⟨vp, fun _ => trivial, fun n => absurd q n⟩, Or.inl rfl⟩
  · obtain ⟨m, hm, em⟩ : ∃ m, m < Z ∧ b 6 p = nI m := by
      rcases h2 with h2 | ⟨m, hm, em⟩
      · exact absurd (h1.symm.trans h2) q
      · exact ⟨m, hm, h1.symm.trans em⟩
    obtain ⟨o1, s1⟩ := lq_ofP (i := i) (b := b) (k := m) (j := 0) (c := 0) (by omega) (by decide) rfl
    have o1 : X8_ofPicture i b (nI m) 0 = b 0 (132 + 5 * m) := o1
    have n1 : X3_at 80 (a0 3) (nI m) = b 0 (132 + 5 * m) := (lq_at (by omega) (by decide)).trans (c.2.2.2.2.2 m hm).1
    rw [if_neg q, if_neg q, em, n1, o1]
    refine ⟨rfl, ⟨vp, fun _ => trivial, fun _ => ⟨vp, s1, fun _ _ => ⟨fun _ => trivial, fun _ => trivial⟩⟩⟩, ?_⟩
    by_cases y : b 0 (132 + 5 * m) = nI p
    · rw [if_pos y]; exact Or.inl rfl
    · rw [if_neg y]; exact Or.inr rfl
theorem lq_spare {L Z : Nat} {b : Nat → Nat → Int32} (hL : L ≤ 30) (hZ : Z ≤ 80) (hj : JG L Z gs ch b Z) {k : Nat} (hk : k < Z) : X4_isSpare pi pa gs ch (nI k) = X8_isSpare i b (nI k) ∧ S_X8_isSpare i b (nI k) ∧ (X8_isSpare i b (nI k) = 0 ∨ X8_isSpare i b (nI k) = 1) := by
  obtain ⟨h1, h2⟩ := hj.1 k hk
  have e5 : X3_at 80 gs (nI k) = b 5 k := (lq_at (by omega) (by decide)).trans h1
  have ec : (nI k).toNatClampNeg = k := nI_clamp (by omega)
  have vk : vp_in (nI k) 80 := vp_in_nI (by omega) (by decide)
  unfold X4_isSpare X8_isSpare S_X8_isSpare
  rw [e5, ec]
  dsimp only
  by_cases q : b 5 k = (-5)
  · rw [if_pos q, if_pos q]
    exact ⟨rfl, ⟨vk, fun _ => trivial, fun n => absurd q n⟩, Or.inr rfl⟩
  · obtain ⟨g, hg, eg⟩ : ∃ g, g < 2 * L ∧ b 5 k = nI g := by
      rcases h2 with h2 | ⟨m, hm, em⟩
      · exact absurd (h1.symm.trans h2) q
      · exact ⟨m, hm, h1.symm.trans em⟩
    have e6 : X3_at 60 ch (nI g) = b 6 g := (lq_at (by omega) (by decide)).trans (hj.2 g (by omega)).1
    have eg2 : (nI g).toNatClampNeg = g := nI_clamp (by omega)
    have vg : vp_in (nI g) 60 := vp_in_nI (by omega) (by decide)
    rw [if_neg q, if_neg q, eg, e6, eg2]
    refine ⟨rfl, ⟨vk, fun _ => trivial, fun _ => ⟨vk, vg, fun _ => trivial, fun _ => trivial⟩⟩, ?_⟩
    by_cases y : b 6 g = nI k
    · rw [if_pos y]; exact Or.inl rfl
    · rw [if_neg y]; exact Or.inr rfl
/-- the place of a page that lacks -/
theorem lq_lackL {L Z : Nat} {b : Nat → Nat → Int32} {p : Nat} {p0 : Int32} (hL : L ≤ 30) (hl : b 0 0 = nI L) (hj : JG L Z gs ch b Z) : ∀ (fu fu' k v : Nat), k ≤ 2 * L → v ≤ p → v ≤ k → 2 * L - k < fu → 2 * L - k < fu' → p < 2147483648 →
    X4_lackingAt_L4 pi (nI (2 * L)) gs ch (nI p) fu (nI v) (nI k) = (X8_lacking_L15 i a p0 fu' (nI (p - v)) (nI k) b).1 ∧ (X8_lacking_L15 i a p0 fu' (nI (p - v)) (nI k) b).2 = b ∧ S_X8_lacking_L15 i a p0 fu' (nI (p - v)) (nI k) b := by
  intro fu
  induction fu with
  | zero => intro fu' k v _ _ _ h; omega
  | succ fu ih =>
    intro fu' k v hk hv hvk h1 h2 hp
    cases fu' with
    | zero => omega
    | succ fu' =>
      have e2 : (2 : Int32) * (b 0 0) = nI (2 * L) := by rw [hl, show (2 : Int32) = nI 2 from rfl, pk_mul]
      by_cases q : k = 2 * L
      · have g1 : nI (2 * L) ≤ nI k := nI_le (by omega) (by omega)
        have g2 : (2 : Int32) * (b 0 0) ≤ nI k := by rw [e2]; exact g1
        have eR : X8_lacking_L15 i a p0 (fu' + 1) (nI (p - v)) (nI k) b = ((-5), b) := if_pos g2
        rw [eR]
        exact ⟨if_pos g1, rfl, fun _ => trivial, fun n => absurd g2 n⟩
      · have hk : k < 2 * L := by omega
        have g1 : ¬ nI (2 * L) ≤ nI k := nI_ge hk (by omega)
        have g2 : ¬ (2 : Int32) * (b 0 0) ≤ nI k := by rw [e2]; exact g1
        have e5 : X3_at 60 ch (nI k) = b 6 k := (lq_at (by omega) (by decide)).trans (hj.2 k (by omega)).1
        have ec : (nI k).toNatClampNeg = k := nI_clamp (by omega)
        have vk : vp_in (nI k) 60 := vp_in_nI (by omega) (by decide)
        have eC : X4_lackingAt_L4 pi (nI (2 * L)) gs ch (nI p) (fu + 1) (nI v) (nI k) = (if b 6 k = (-5) then (if nI v = nI p then nI k else X4_lackingAt_L4 pi (nI (2 * L)) gs ch (nI p) fu (nI (v + 1)) (nI (k + 1))) else X4_lackingAt_L4 pi (nI (2 * L)) gs ch (nI p) fu (nI v) (nI (k + 1))) := by
          rw [← e5, ← nI_1, ← nI_1]; exact if_neg g1
        have eR : X8_lacking_L15 i a p0 (fu' + 1) (nI (p - v)) (nI k) b = (if b 6 k = (-5) then (if nI (p - v) = 0 then (nI k, b) else X8_lacking_L15 i a p0 fu' (nI (p - v) + (-1)) (nI (k + 1)) b) else X8_lacking_L15 i a p0 fu' (nI (p - v)) (nI (k + 1)) b) := by
          refine (if_neg g2).trans ?_
          rw [ec, nI_1]
        rw [eC, eR]
        by_cases y : b 6 k = (-5)
        · rw [if_pos y, if_pos y]
          by_cases y2 : v = p
          · have y3 : nI (p - v) = 0 := by rw [y2, Nat.sub_self]; rfl
            rw [if_pos (show nI v = nI p by rw [y2]), if_pos y3]
            refine ⟨rfl, rfl, fun n => absurd n g2, fun _ => ⟨vk, ?_⟩⟩
            rw [ec]
            exact ⟨fun _ => ⟨fun _ => trivial, fun n => absurd y3 n⟩, fun n => absurd y n⟩
          · have y3 : ¬ nI (p - v) = 0 := nI_ne0 (by omega) (by omega)
            have y4 : nI (p - v) + (-1) = nI (p - (v + 1)) := by
              obtain ⟨m, hm⟩ : ∃ m, p - v = m + 1 := ⟨p - v - 1, by omega⟩
              rw [hm, pk_m1]; congr 1; omega
            rw [if_neg (fun w => y2 ((nI_eq (by omega) (by omega)).mp w)), if_neg y3, y4]
            obtain ⟨r1, r2, r3⟩ := ih fu' (k + 1) (v + 1) (by omega) (by omega) (by omega) (by omega) (by omega) hp
            refine ⟨r1, r2, fun n => absurd n g2, fun _ => ⟨vk, ?_⟩⟩
            rw [ec]
            exact ⟨fun _ => ⟨fun n => absurd n y3, fun _ => ⟨by rw [y4, nI_1]; exact r3, trivial⟩⟩, fun n => absurd y n⟩
        · rw [if_neg y, if_neg y]
          obtain ⟨r1, r2, r3⟩ := ih fu' (k + 1) v (by omega) (by omega) (by omega) (by omega) (by omega) hp
          refine ⟨r1, r2, fun n => absurd n g2, fun _ => ⟨vk, ?_⟩⟩
          rw [ec]
          exact ⟨fun n => absurd n y, fun _ => ⟨by rw [nI_1]; exact r3, trivial⟩⟩
theorem lq_fz {n : Nat} (h : n < 1000) : n - 0 < (((nI n : Int32)).toInt - (0 : Int32).toInt).toNat + 1 := by rw [nI_toInt (by omega), Int32.toInt_zero]; omega
theorem sim_lacking (h : RW hs z Vh i0 a0 i2 a2 len sg i a) (p0 : Int32) :
    S_X8_lacking i a p0 ∧ (X7_lacking hs i0 a0 pi pa gs ch p0).1 = (X8_lacking i a p0).1 ∧ RW hs z Vh i0 a0 i2 a2 len sg i (X8_lacking i a p0).2 := by
  obtain ⟨b, ⟨L, F, Z, c⟩, d, g⟩ := id h
  have hL := c.1.1
  unfold X7_lacking X8_lacking S_X8_lacking
  by_cases q : (0 : Int32) ≤ p0
  · rw [if_pos q, if_pos q]
    obtain ⟨s1, k1, gs', ch', m1, m2⟩ := lq_make c (pi := pi) (pa := pa) (gs := gs) (ch := ch)
    obtain ⟨p, hp, rfl⟩ := nI_of (x := p0) (Int32.not_lt.mpr q)
    have e0 : X8_guessesAll i a 0 = a 0 := k1 0 (by decide) (by decide)
    have el : X8_guessesAll i a 0 0 = nI L := by rw [e0]; exact c.1.l
    have e2 : (2 : Int32) * (X8_guessesAll i a 0 0) = nI (2 * L) := by rw [el, show (2 : Int32) = nI 2 from rfl, pk_mul]
    obtain ⟨r1, r2, r3⟩ := lq_lackL (i := i) (a := a) (pi := nI Z) (p0 := nI p) hL el m2 (p := p) (((nI (2 * L) : Int32).toInt - (0 : Int32).toInt).toNat + 1) (((nI (2 * L) : Int32).toInt - (0 : Int32).toInt).toNat + 1) 0 0 (by omega) (by omega) (by omega) (lq_fz (by omega)) (lq_fz (by omega)) (by omega)
    rw [m1]
    dsimp only
    rw [e2]
    refine ⟨⟨fun _ => ⟨s1, fun x hx => ⟨by rw [hx, e2]; exact r3, trivial⟩⟩, fun n => absurd q n⟩, r1, ?_⟩
    have r2' : (X8_lacking_L15 i a (nI p) (((nI (2 * L) : Int32).toInt - (0 : Int32).toInt).toNat + 1) (nI p) 0 (X8_guessesAll i a)).2 = X8_guessesAll i a := r2
    rw [r2']
    exact h.guessed k1
  · rw [if_neg q, if_neg q]
    exact ⟨⟨fun n => absurd n q, fun _ => trivial⟩, rfl, h⟩
theorem sim_page (h : RW hs z Vh i0 a0 i2 a2 len sg i a) (p0 p1 : Int32) :
    S_X8_page i a p0 p1 ∧ (X7_page hs i0 a0 pi pa gs ch p0 p1).1 = (X8_page i a p0 p1).1 ∧ RW hs z Vh i0 a0 i2 a2 len sg i (X8_page i a p0 p1).2 := by
  obtain ⟨b, ⟨L, F, Z, c⟩, d, g⟩ := id h
  have hL := c.1.1
  have hZ := c.1.2.2.1
  unfold X7_page X8_page S_X8_page
  rcases lq_isPage (i := i) (a := a) c p0 with ⟨x1, x2⟩ | ⟨x1, x2, k, hk, x3⟩
  · rw [x1, x2]
    dsimp only
    rw [if_pos (show (0 : Int32) = 0 from rfl), if_pos (show (0 : Int32) = 0 from rfl)]
    exact ⟨⟨lq_isPageS, fun r hr => ⟨fun _ => trivial, fun n => absurd hr n⟩⟩, rfl, h⟩
  · obtain ⟨s1, k1, gs', ch', m1, m2⟩ := lq_make c (pi := pi) (pa := pa) (gs := gs) (ch := ch)
    have e0 : X8_guessesAll i a 0 = a 0 := k1 0 (by decide) (by decide)
    have hR := h.guessed k1
    generalize X8_guessesAll i a = B at s1 k1 m2 e0 hR ⊢
    have cB : RS L F Z i0 a0 (B 0) := by rw [e0]; exact c
    subst x3
    obtain ⟨d1, d2, d3⟩ := lq_doubt (i := i) (pi := nI Z) (pa := nI (2 * L)) cB m2 (p := k) (by omega)
    obtain ⟨w1, w2⟩ := lq_show (i := i) (p := nI k) cB
    have ec : (nI k).toNatClampNeg = k := nI_clamp (by omega)
    have e72 : ((72 : Int32) + nI k).toNatClampNeg = 72 + k := lq_c (m := 72) rfl (by omega)
    have v72 : vp_in ((72 : Int32) + nI k) 532 := lq_v (m := 72) rfl (by omega) (by decide)
    have vk : vp_in (nI k) 60 := vp_in_nI (by omega) (by decide)
    have n1 : X3_at 60 (a0 2) (nI k) = B 0 (72 + k) := (lq_at (by omega) (by decide)).trans (cB.2.2.2.2.1 k hk)
    have n2 : X3_at 60 ch' (nI k) = B 6 k := (lq_at (by omega) (by decide)).trans (m2.2 k (by omega)).1
    have gd := lq_good cB k hk
    have gp : (nI k - nI k / 2 * 2 : Int32) = nI (k % 2) := by rw [show (2 : Int32) = nI 2 from rfl, pk_rem (by omega) (by decide) (by decide)]
    have gq : (nI k / 2 : Int32) = nI (k / 2) := pk_div (d := 2) (by omega) (by decide) (by decide)
    have hS : (p1 = 0 → (vp_in (72 + nI k) 532) ∧ True) ∧ (¬ (p1 = 0) → (p1 = 1 → (vp_in (nI k) 60) ∧ True) ∧ (¬ (p1 = 1) → (p1 = 2 → (S_X8_shownBy i B (nI k)) ∧ ∀ r_67, r_67 = X8_shownBy i B (nI k) → True) ∧ (¬ (p1 = 2) → (p1 = 3 → (S_X8_isDoubtful i B (nI k)) ∧ ∀ r_73, r_73 = X8_isDoubtful i B (nI k) → (r_73 = 0 → True) ∧ (¬ (r_73 = 0) → True)) ∧ (¬ (p1 = 3) → (p1 = 4 → ((nI k - nI k / 2 * 2) = 0 → (S_X8_isGood (B 0) (((B 0) 0) - (nI k / 2))) ∧ ∀ r_113, r_113 = X8_isGood (B 0) (((B 0) 0) - (nI k / 2)) → (r_113 = 0 → True) ∧ (¬ (r_113 = 0) → True)) ∧ (¬ ((nI k - nI k / 2 * 2) = 0) → (S_X8_isGood (B 0) ((nI k / 2) + 1)) ∧ ∀ r_113, r_113 = X8_isGood (B 0) ((nI k / 2) + 1) → (r_113 = 0 → True) ∧ (¬ (r_113 = 0) → True))) ∧ (¬ (p1 = 4) → True))))) :=
      ⟨fun _ => ⟨v72, trivial⟩, fun _ => ⟨fun _ => ⟨vk, trivial⟩, fun _ => ⟨fun _ => ⟨w2, fun _ _ => trivial⟩, fun _ => ⟨fun _ => ⟨d2, fun _ _ => ⟨fun _ => trivial, fun _ => trivial⟩⟩, fun _ => ⟨fun _ => ⟨fun _ => ⟨lq_goodS, fun _ _ => ⟨fun _ => trivial, fun _ => trivial⟩⟩, fun _ => ⟨lq_goodS, fun _ _ => ⟨fun _ => trivial, fun _ => trivial⟩⟩⟩, fun _ => trivial⟩⟩⟩⟩⟩
    refine ⟨⟨lq_isPageS, fun r hr => ⟨fun n => absurd (x2.symm.trans (hr.symm.trans n)) (by decide), fun _ => ⟨s1, fun x hx => by subst hx; exact hS⟩⟩⟩, ?_⟩
    rw [x1, x2, m1]
    dsimp only
    rw [n1, ec, e72, d1, w1, gp, gq, n2, if_neg (show ¬ (1 : Int32) = 0 by decide), if_neg (show ¬ (1 : Int32) = 0 by decide)]
    by_cases c0 : p1 = 0
    · rw [if_pos c0, if_pos c0]; exact ⟨rfl, hR⟩
    · rw [if_neg c0, if_neg c0]
      by_cases c1 : p1 = 1
      · rw [if_pos c1, if_pos c1]; exact ⟨rfl, hR⟩
      · rw [if_neg c1, if_neg c1]
        by_cases c2 : p1 = 2
        · rw [if_pos c2, if_pos c2]; exact ⟨rfl, hR⟩
        · rw [if_neg c2, if_neg c2]
          by_cases c3 : p1 = 3
          · rw [if_pos c3, if_pos c3]
            rcases d3 with d3 | d3 <;> rw [d3]
            · rw [if_pos (show (0 : Int32) = 0 from rfl)]; exact ⟨rfl, hR⟩
            · rw [if_neg (show ¬ (1 : Int32) = 0 by decide)]; exact ⟨rfl, hR⟩
          · rw [if_neg c3, if_neg c3]
            by_cases c4 : p1 = 4
            · rw [if_pos c4, if_pos c4, gd]
              by_cases pq : k % 2 = 0
              · rw [pq, if_pos (show (0 : Nat) = 0 from rfl), if_pos (show nI 0 = 0 from nI_0), cB.1.l, pk_sub (by omega)]
                rcases lq_good01 (B 0) (nI (L - k / 2)) with w | w <;> rw [w]
                · rw [if_pos (show (0 : Int32) = 0 from rfl)]; exact ⟨rfl, hR⟩
                · rw [if_neg (show ¬ (1 : Int32) = 0 by decide)]; exact ⟨rfl, hR⟩
              · have p1' : k % 2 = 1 := by omega
                rw [p1', if_neg (show ¬ (1 : Nat) = 0 by decide), if_neg (show ¬ nI 1 = 0 by decide), nI_1]
                rcases lq_good01 (B 0) (nI (k / 2 + 1)) with w | w <;> rw [w]
                · rw [if_pos (show (0 : Int32) = 0 from rfl)]; exact ⟨rfl, hR⟩
                · rw [if_neg (show ¬ (1 : Int32) = 0 by decide)]; exact ⟨rfl, hR⟩
            · rw [if_neg c4, if_neg c4]; exact ⟨rfl, hR⟩
end PAGE
