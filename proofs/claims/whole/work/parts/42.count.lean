set_option maxRecDepth 100000
section COUNT
variable {hs z : Int32} {Bh : Nat → Nat → Nat} {Vh : Nat → lt_SV} {i0 : Nat → Int32} {a0 : Nat → Nat → Int32} {i1 : Nat → Int32} {a1 : Nat → Nat → Int32} {i2 : Nat → Int32} {a2 : Nat → Nat → Int32} {len : Int32} {sg : Nat → Int32} {i : Nat → Int32} {a : Nat → Nat → Int32} {pi pa : Int32} {gs ch : Nat → Int32}
theorem sim_picture (h : RW hs z Vh i0 a0 i2 a2 len sg i a) (p0 p1 : Int32) :
    S_X8_picture i a p0 p1 ∧ (X7_picture hs i0 a0 pi pa gs ch p0 p1).1 = (X8_picture i a p0 p1).1 ∧ RW hs z Vh i0 a0 i2 a2 len sg i (X8_picture i a p0 p1).2 := by
  obtain ⟨b, ⟨L, F, Z, c⟩, d, g⟩ := id h
  have hL := c.1.1
  have hZ := c.1.2.2.1
  unfold X7_picture X8_picture S_X8_picture
  have sP : ∀ b : Nat → Nat → Int32, S_X8_isPicture i b p0 := fun _ _ _ => trivial
  rcases lq_isPic (i := i) (a := a) c p0 with ⟨x1, x2⟩ | ⟨x1, x2, k, hk, x3⟩
  · rw [x1, x2]
    dsimp only
    rw [if_pos (show (0 : Int32) = 0 from rfl), if_pos (show (0 : Int32) = 0 from rfl)]
    exact ⟨⟨sP _, fun r hr => ⟨fun _ => trivial, fun n => absurd hr n⟩⟩, rfl, h⟩
  · obtain ⟨s1, k1, gs', ch', m1, m2⟩ := lq_make c (pi := pi) (pa := pa) (gs := gs) (ch := ch)
    have e0 : X8_guessesAll i a 0 = a 0 := k1 0 (by decide) (by decide)
    have hR := h.guessed k1
    generalize X8_guessesAll i a = B at s1 k1 m2 e0 hR ⊢
    have cB : RS L F Z i0 a0 (B 0) := by rw [e0]; exact c
    subst x3
    obtain ⟨d1, d2, d3⟩ := lq_spare (i := i) (pi := nI Z) (pa := nI (2 * L)) hL hZ m2 hk
    have pc := cB.2.2.2.2.2 k hk
    have ec : (nI k).toNatClampNeg = k := nI_clamp (by omega)
    have vk : vp_in (nI k) 80 := vp_in_nI (by omega) (by decide)
    have n0 : X3_at 80 (a0 3) (nI k) = B 0 (132 + 5 * k) := (lq_at (by omega) (by decide)).trans pc.1
    have n1 : X3_at 80 (a0 4) (nI k) = B 0 (133 + 5 * k) := (lq_at (by omega) (by decide)).trans pc.2.1
    have n2 := lq_gut cB hk
    have n3 : X3_at 80 gs' (nI k) = B 5 k := (lq_at (by omega) (by decide)).trans (m2.1 k hk).1
    have n6 : X3_at 80 (a0 6) (nI k) = B 0 (135 + 5 * k) := (lq_at (by omega) (by decide)).trans pc.2.2.2
    obtain ⟨gk, gg, hgg, w1, w2⟩ := cB.1.2.2.2.2.2.2.2 k hk
    have o : ∀ j : Nat, j < 5 → X8_ofPicture i B (nI k) (nI j) = B 0 (132 + j + 5 * k) ∧ S_X8_ofPicture i B (nI k) (nI j) := fun j hj => lq_ofP (by omega) hj rfl
    have o0 : X8_ofPicture i B (nI k) 0 = B 0 (132 + 5 * k) := (o 0 (by decide)).1
    have o1 : X8_ofPicture i B (nI k) 1 = B 0 (133 + 5 * k) := (o 1 (by decide)).1
    have o2 : X8_ofPicture i B (nI k) 2 = B 0 (134 + 5 * k) := (o 2 (by decide)).1
    have o3 : X8_ofPicture i B (nI k) 3 = B 0 (135 + 5 * k) := (o 3 (by decide)).1
    have o4 : X8_ofPicture i B (nI k) 4 = B 0 (136 + 5 * k) := (o 4 (by decide)).1
    have t0 : S_X8_ofPicture i B (nI k) 0 := (o 0 (by decide)).2
    have t1 : S_X8_ofPicture i B (nI k) 1 := (o 1 (by decide)).2
    have t2 : S_X8_ofPicture i B (nI k) 2 := (o 2 (by decide)).2
    have t3 : S_X8_ofPicture i B (nI k) 3 := (o 3 (by decide)).2
    have t4 : S_X8_ofPicture i B (nI k) 4 := (o 4 (by decide)).2
    have hS : (p1 = 0 → (S_X8_ofPicture i B (nI k) p1) ∧ ∀ r_59, r_59 = X8_ofPicture i B (nI k) p1 → True) ∧ (¬ (p1 = 0) → (p1 = 1 → (S_X8_ofPicture i B (nI k) p1) ∧ ∀ r_59, r_59 = X8_ofPicture i B (nI k) p1 → True) ∧ (¬ (p1 = 1) → (p1 = 2 → (S_X8_ofPicture i B (nI k) p1) ∧ ∀ r_59, r_59 = X8_ofPicture i B (nI k) p1 → True) ∧ (¬ (p1 = 2) → (p1 = 3 → (vp_in (nI k) 80) ∧ True) ∧ (¬ (p1 = 3) → (p1 = 4 → (S_X8_isSpare i B (nI k)) ∧ ∀ r_72, r_72 = X8_isSpare i B (nI k) → (r_72 = 0 → True) ∧ (¬ (r_72 = 0) → True)) ∧ (¬ (p1 = 4) → (p1 = 5 → (S_X8_ofPicture i B (nI k) 4) ∧ ∀ r_87, r_87 = X8_ofPicture i B (nI k) 4 → True) ∧ (¬ (p1 = 5) → (p1 = 6 → (S_X8_ofPicture i B (nI k) 3) ∧ ∀ r_94, r_94 = X8_ofPicture i B (nI k) 3 → True) ∧ (¬ (p1 = 6) → True))))))) :=
      ⟨fun e => ⟨by rw [e]; exact t0, fun _ _ => trivial⟩, fun _ => ⟨fun e => ⟨by rw [e]; exact t1, fun _ _ => trivial⟩, fun _ => ⟨fun e => ⟨by rw [e]; exact t2, fun _ _ => trivial⟩, fun _ => ⟨fun _ => ⟨vk, trivial⟩, fun _ => ⟨fun _ => ⟨d2, fun _ _ => ⟨fun _ => trivial, fun _ => trivial⟩⟩, fun _ => ⟨fun _ => ⟨t4, fun _ _ => trivial⟩, fun _ => ⟨fun _ => ⟨t3, fun _ _ => trivial⟩, fun _ => trivial⟩⟩⟩⟩⟩⟩⟩
    refine ⟨⟨sP _, fun r hr => ⟨fun n => absurd (x2.symm.trans (hr.symm.trans n)) (by decide), fun _ => ⟨s1, fun x hx => by subst hx; exact hS⟩⟩⟩, ?_⟩
    rw [x1, x2, m1]
    dsimp only
    rw [n0, n1, n2, n3, n6, ec, d1, o3, o4, if_neg (show ¬ (1 : Int32) = 0 by decide), if_neg (show ¬ (1 : Int32) = 0 by decide)]
    by_cases c0 : p1 = 0
    · rw [if_pos c0, if_pos c0, c0, o0]; exact ⟨rfl, hR⟩
    · rw [if_neg c0, if_neg c0]
      by_cases c1 : p1 = 1
      · rw [if_pos c1, if_pos c1, c1, o1]; exact ⟨rfl, hR⟩
      · rw [if_neg c1, if_neg c1]
        by_cases c2 : p1 = 2
        · rw [if_pos c2, if_pos c2, c2, o2, lq_asid gk]; exact ⟨rfl, hR⟩
        · rw [if_neg c2, if_neg c2]
          by_cases c3 : p1 = 3
          · rw [if_pos c3, if_pos c3]; exact ⟨rfl, hR⟩
          · rw [if_neg c3, if_neg c3]
            by_cases c4 : p1 = 4
            · rw [if_pos c4, if_pos c4]
              rcases d3 with d3 | d3 <;> rw [d3]
              · rw [if_pos (show (0 : Int32) = 0 from rfl)]; exact ⟨rfl, hR⟩
              · rw [if_neg (show ¬ (1 : Int32) = 0 by decide)]; exact ⟨rfl, hR⟩
            · rw [if_neg c4, if_neg c4]
              by_cases c5 : p1 = 5
              · have e9 : X7_asNumber (nI (1 - gg % 2)) = nI (1 - gg % 2) := lq_asid (by
                  rcases (show 1 - gg % 2 = 0 ∨ 1 - gg % 2 = 1 by omega) with e | e <;> rw [e]
                  · exact Or.inl rfl
                  · exact Or.inr rfl)
                rw [if_pos c5, if_pos c5, w1, w2, lq_par gg (by omega), e9]; exact ⟨rfl, hR⟩
              · rw [if_neg c5, if_neg c5]
                by_cases c6 : p1 = 6
                · rw [if_pos c6, if_pos c6]; exact ⟨rfl, hR⟩
                · rw [if_neg c6, if_neg c6]; exact ⟨rfl, hR⟩
theorem lq_cLack {L F Z : Nat} {b : Nat → Nat → Int32} (c : RS L F Z i0 a0 (b 0)) (hj : JG L Z gs ch b Z) : ∀ (fu fu' k : Nat) (w : Int32), k ≤ 2 * L → 2 * L - k < fu → 2 * L - k < fu' →
    X4_howManyLack_L4 pi (nI (2 * L)) gs ch fu w (nI k) = (X8_pages_L8 i a 3 fu' w (nI k) b).1 ∧ (X8_pages_L8 i a 3 fu' w (nI k) b).2 = b ∧ S_X8_pages_L8 i a 3 fu' w (nI k) b := by
  intro fu
  induction fu with
  | zero => intro fu' k w _ h; omega
  | succ fu ih =>
    intro fu' k w hk h1 h2
    cases fu' with
    | zero => omega
    | succ fu' =>
      have hL := c.1.1
      have hZ := c.1.2.2.1
      have e2 : (2 : Int32) * (b 0 0) = nI (2 * L) := by rw [c.1.l, show (2 : Int32) = nI 2 from rfl, pk_mul]
      by_cases q : k = 2 * L
      · have g1 : nI (2 * L) ≤ nI k := nI_le (by omega) (by omega)
        have g2 : (2 : Int32) * (b 0 0) ≤ nI k := by rw [e2]; exact g1
        have eR : X8_pages_L8 i a 3 (fu' + 1) w (nI k) b = (w, b) := if_pos g2
        rw [eR]
        exact ⟨if_pos g1, rfl, fun _ => trivial, fun n => absurd g2 n⟩
      · have hk : k < 2 * L := by omega
        have g1 : ¬ nI (2 * L) ≤ nI k := nI_ge hk (by omega)
        have g2 : ¬ (2 : Int32) * (b 0 0) ≤ nI k := by rw [e2]; exact g1
        have ec : (nI k).toNatClampNeg = k := nI_clamp (by omega)
        have e5 : X3_at 60 ch (nI k) = b 6 k := (lq_at (by omega) (by decide)).trans (hj.2 k (by omega)).1
        have vk : vp_in (nI k) 60 := vp_in_nI (by omega) (by decide)
        obtain ⟨r1, r2, r3⟩ := ih fu' (k + 1) (w + 1) (by omega) (by omega) (by omega)
        obtain ⟨r4, r5, r6⟩ := ih fu' (k + 1) (w + 0) (by omega) (by omega) (by omega)
        have eC : X4_howManyLack_L4 pi (nI (2 * L)) gs ch (fu + 1) w (nI k) = (if b 6 k = (-5) then X4_howManyLack_L4 pi (nI (2 * L)) gs ch fu (w + 1) (nI (k + 1)) else X4_howManyLack_L4 pi (nI (2 * L)) gs ch fu w (nI (k + 1))) := by
          rw [← e5, ← nI_1]; exact if_neg g1
        have eR : X8_pages_L8 i a 3 (fu' + 1) w (nI k) b = (if b 6 k = (-5) then X8_pages_L8 i a 3 fu' (w + 1) (nI (k + 1)) b else X8_pages_L8 i a 3 fu' (w + 0) (nI (k + 1)) b) := by
          refine (if_neg g2).trans ?_
          rw [ec, nI_1, if_pos (show (3 : Int32) = 3 from rfl)]
        rw [eC, eR]
        refine ⟨?_, ?_, fun n => absurd n g2, fun _ => ⟨fun _ => ⟨vk, fun _ => ⟨by rw [nI_1]; exact r3, trivial⟩, fun _ => ⟨by rw [nI_1]; exact r6, trivial⟩⟩, fun n => absurd rfl n⟩⟩
        · by_cases y : b 6 k = (-5)
          · rw [if_pos y, if_pos y]; exact r1
          · rw [if_neg y, if_neg y]; rw [← r4, Int32.add_zero]
        · by_cases y : b 6 k = (-5)
          · rw [if_pos y]; exact r2
          · rw [if_neg y]; exact r5
theorem lq_cDoubt {L F Z : Nat} {b : Nat → Nat → Int32} (c : RS L F Z i0 a0 (b 0)) (hj : JG L Z gs ch b Z) : ∀ (fu fu' k : Nat) (w : Int32), k ≤ 2 * L → 2 * L - k < fu → 2 * L - k < fu' →
    X4_howManyDoubtful_L4 pi (nI (2 * L)) gs ch (i0 2) (a0 3) (a0 4) (a0 5) (a0 6) fu w (nI k) = (X8_pages_L8 i a 4 fu' w (nI k) b).1 ∧ (X8_pages_L8 i a 4 fu' w (nI k) b).2 = b ∧ S_X8_pages_L8 i a 4 fu' w (nI k) b := by
  intro fu
  induction fu with
  | zero => intro fu' k w _ h; omega
  | succ fu ih =>
    intro fu' k w hk h1 h2
    cases fu' with
    | zero => omega
    | succ fu' =>
      have hL := c.1.1
      have hZ := c.1.2.2.1
      have e2 : (2 : Int32) * (b 0 0) = nI (2 * L) := by rw [c.1.l, show (2 : Int32) = nI 2 from rfl, pk_mul]
      by_cases q : k = 2 * L
      · have g1 : nI (2 * L) ≤ nI k := nI_le (by omega) (by omega)
        have g2 : (2 : Int32) * (b 0 0) ≤ nI k := by rw [e2]; exact g1
        have eR : X8_pages_L8 i a 4 (fu' + 1) w (nI k) b = (w, b) := if_pos g2
        rw [eR]
        exact ⟨if_pos g1, rfl, fun _ => trivial, fun n => absurd g2 n⟩
      · have hk : k < 2 * L := by omega
        have g1 : ¬ nI (2 * L) ≤ nI k := nI_ge hk (by omega)
        have g2 : ¬ (2 : Int32) * (b 0 0) ≤ nI k := by rw [e2]; exact g1
        have ec : (nI k).toNatClampNeg = k := nI_clamp (by omega)
        obtain ⟨d1, d2, d3⟩ := lq_doubt (i := i) (pi := pi) (pa := nI (2 * L)) c hj (p := k) (by omega)
        obtain ⟨r1, r2, r3⟩ := ih fu' (k + 1) (w + 1) (by omega) (by omega) (by omega)
        obtain ⟨r4, r5, r6⟩ := ih fu' (k + 1) (w + 0) (by omega) (by omega) (by omega)
        have eC : X4_howManyDoubtful_L4 pi (nI (2 * L)) gs ch (i0 2) (a0 3) (a0 4) (a0 5) (a0 6) (fu + 1) w (nI k) = (if X8_isDoubtful i b (nI k) = 0 then X4_howManyDoubtful_L4 pi (nI (2 * L)) gs ch (i0 2) (a0 3) (a0 4) (a0 5) (a0 6) fu w (nI (k + 1)) else X4_howManyDoubtful_L4 pi (nI (2 * L)) gs ch (i0 2) (a0 3) (a0 4) (a0 5) (a0 6) fu (w + 1) (nI (k + 1))) := by
          rw [← d1, ← nI_1]; exact if_neg g1
        have eR : X8_pages_L8 i a 4 (fu' + 1) w (nI k) b = (if X8_isDoubtful i b (nI k) = 0 then X8_pages_L8 i a 4 fu' (w + 0) (nI (k + 1)) b else X8_pages_L8 i a 4 fu' (w + 1) (nI (k + 1)) b) := by
          refine (if_neg g2).trans ?_
          rw [nI_1, if_neg (show ¬ (4 : Int32) = 3 by decide)]
        rw [eC, eR]
        refine ⟨?_, ?_, fun n => absurd n g2, fun _ => ⟨fun n => absurd n (by decide), fun _ => ⟨d2, fun x hx => ⟨fun _ => ⟨by rw [nI_1]; exact r6, trivial⟩, fun _ => ⟨by rw [nI_1]; exact r3, trivial⟩⟩⟩⟩⟩
        · by_cases y : X8_isDoubtful i b (nI k) = 0
          · rw [if_pos y, if_pos y]; rw [← r4, Int32.add_zero]
          · rw [if_neg y, if_neg y]; exact r1
        · by_cases y : X8_isDoubtful i b (nI k) = 0
          · rw [if_pos y]; exact r5
          · rw [if_neg y]; exact r2
theorem lq_cSpare {L F Z : Nat} {b : Nat → Nat → Int32} (c : RS L F Z i0 a0 (b 0)) (hj : JG L Z gs ch b Z) : ∀ (fu fu' k : Nat) (w : Int32), k ≤ Z → Z - k < fu → Z - k < fu' →
    X4_howManySpare_L4 (nI Z) pa gs ch fu w (nI k) = (X8_pictures_L8 i a 5 fu' w (nI k) b).1 ∧ (X8_pictures_L8 i a 5 fu' w (nI k) b).2 = b ∧ S_X8_pictures_L8 i a 5 fu' w (nI k) b := by
  intro fu
  induction fu with
  | zero => intro fu' k w _ h; omega
  | succ fu ih =>
    intro fu' k w hk h1 h2
    cases fu' with
    | zero => omega
    | succ fu' =>
      have hL := c.1.1
      have hZ := c.1.2.2.1
      have e2 : (2 : Int32) * (b 0 0) = nI (2 * L) := by rw [c.1.l, show (2 : Int32) = nI 2 from rfl, pk_mul]
      by_cases q : k = Z
      · have g1 : nI (Z) ≤ nI k := nI_le (by omega) (by omega)
        have g2 : (b 0) 2 ≤ nI k := by rw [c.1.z]; exact g1
        have eR : X8_pictures_L8 i a 5 (fu' + 1) w (nI k) b = (w, b) := if_pos g2
        rw [eR]
        exact ⟨if_pos g1, rfl, fun _ => trivial, fun n => absurd g2 n⟩
      · have hk : k < Z := by omega
        have g1 : ¬ nI (Z) ≤ nI k := nI_ge hk (by omega)
        have g2 : ¬ (b 0) 2 ≤ nI k := by rw [c.1.z]; exact g1
        have ec : (nI k).toNatClampNeg = k := nI_clamp (by omega)
        obtain ⟨d1, d2, d3⟩ := lq_spare (i := i) (pi := nI Z) (pa := pa) hL hZ hj hk
        obtain ⟨r1, r2, r3⟩ := ih fu' (k + 1) (w + 1) (by omega) (by omega) (by omega)
        obtain ⟨r4, r5, r6⟩ := ih fu' (k + 1) (w + 0) (by omega) (by omega) (by omega)
        have eC : X4_howManySpare_L4 (nI Z) pa gs ch (fu + 1) w (nI k) = (if X8_isSpare i b (nI k) = 0 then X4_howManySpare_L4 (nI Z) pa gs ch fu w (nI (k + 1)) else X4_howManySpare_L4 (nI Z) pa gs ch fu (w + 1) (nI (k + 1))) := by
          rw [← d1, ← nI_1]; exact if_neg g1
        have eR : X8_pictures_L8 i a 5 (fu' + 1) w (nI k) b = (if X8_isSpare i b (nI k) = 0 then X8_pictures_L8 i a 5 fu' (w + 0) (nI (k + 1)) b else X8_pictures_L8 i a 5 fu' (w + 1) (nI (k + 1)) b) := by
          refine (if_neg g2).trans ?_
          rw [nI_1, if_pos (show (5 : Int32) = 5 from rfl)]
        rw [eC, eR]
        refine ⟨?_, ?_, fun n => absurd n g2, fun _ => ⟨fun _ => ⟨d2, fun x hx => ⟨fun _ => ⟨by rw [nI_1]; exact r6, trivial⟩, fun _ => ⟨by rw [nI_1]; exact r3, trivial⟩⟩⟩, fun n => absurd rfl n⟩⟩
        · by_cases y : X8_isSpare i b (nI k) = 0
          · rw [if_pos y, if_pos y]; rw [← r4, Int32.add_zero]
          · rw [if_neg y, if_neg y]; exact r1
        · by_cases y : X8_isSpare i b (nI k) = 0
          · rw [if_pos y]; exact r5
          · rw [if_neg y]; exact r2
theorem lq_cNot {L F Z : Nat} {b : Nat → Nat → Int32} (c : RS L F Z i0 a0 (b 0)) (hj : JG L Z gs ch b Z) : ∀ (fu fu' k : Nat) (w : Int32), k ≤ Z → Z - k < fu → Z - k < fu' →
    X4_howManyNotGuessed_L4 (nI Z) pa gs ch fu w (nI k) = (X8_pictures_L8 i a 6 fu' w (nI k) b).1 ∧ (X8_pictures_L8 i a 6 fu' w (nI k) b).2 = b ∧ S_X8_pictures_L8 i a 6 fu' w (nI k) b := by
  intro fu
  induction fu with
  | zero => intro fu' k w _ h; omega
  | succ fu ih =>
    intro fu' k w hk h1 h2
    cases fu' with
    | zero => omega
    | succ fu' =>
      have hL := c.1.1
      have hZ := c.1.2.2.1
      have e2 : (2 : Int32) * (b 0 0) = nI (2 * L) := by rw [c.1.l, show (2 : Int32) = nI 2 from rfl, pk_mul]
      by_cases q : k = Z
      · have g1 : nI (Z) ≤ nI k := nI_le (by omega) (by omega)
        have g2 : (b 0) 2 ≤ nI k := by rw [c.1.z]; exact g1
        have eR : X8_pictures_L8 i a 6 (fu' + 1) w (nI k) b = (w, b) := if_pos g2
        rw [eR]
        exact ⟨if_pos g1, rfl, fun _ => trivial, fun n => absurd g2 n⟩
      · have hk : k < Z := by omega
        have g1 : ¬ nI (Z) ≤ nI k := nI_ge hk (by omega)
        have g2 : ¬ (b 0) 2 ≤ nI k := by rw [c.1.z]; exact g1
        have ec : (nI k).toNatClampNeg = k := nI_clamp (by omega)
        have e5 : X3_at 80 gs (nI k) = b 5 k := (lq_at (by omega) (by decide)).trans (hj.1 k hk).1
        have vk : vp_in (nI k) 80 := vp_in_nI (by omega) (by decide)
        obtain ⟨r1, r2, r3⟩ := ih fu' (k + 1) (w + 1) (by omega) (by omega) (by omega)
        obtain ⟨r4, r5, r6⟩ := ih fu' (k + 1) (w + 0) (by omega) (by omega) (by omega)
        have eC : X4_howManyNotGuessed_L4 (nI Z) pa gs ch (fu + 1) w (nI k) = (if b 5 k = (-5) then X4_howManyNotGuessed_L4 (nI Z) pa gs ch fu (w + 1) (nI (k + 1)) else X4_howManyNotGuessed_L4 (nI Z) pa gs ch fu w (nI (k + 1))) := by
          rw [← e5, ← nI_1]; exact if_neg g1
        have eR : X8_pictures_L8 i a 6 (fu' + 1) w (nI k) b = (if b 5 k = (-5) then X8_pictures_L8 i a 6 fu' (w + 1) (nI (k + 1)) b else X8_pictures_L8 i a 6 fu' (w + 0) (nI (k + 1)) b) := by
          refine (if_neg g2).trans ?_
          rw [ec, nI_1, if_neg (show ¬ (6 : Int32) = 5 by decide)]
        rw [eC, eR]
        refine ⟨?_, ?_, fun n => absurd n g2, fun _ => ⟨fun n => absurd n (by decide), fun _ => ⟨vk, fun _ => ⟨by rw [nI_1]; exact r3, trivial⟩, fun _ => ⟨by rw [nI_1]; exact r6, trivial⟩⟩⟩⟩
        · by_cases y : b 5 k = (-5)
          · rw [if_pos y, if_pos y]; exact r1
          · rw [if_neg y, if_neg y]; rw [← r4, Int32.add_zero]
        · by_cases y : b 5 k = (-5)
          · rw [if_pos y]; exact r2
          · rw [if_neg y]; exact r5
theorem lq_inSet {p0 : Int32} (h : RW hs z Vh i0 a0 i2 a2 len sg i a) :
    (p0 = 3 ∨ p0 = 4 → S_X8_pages i a p0 ∧ (X7_countInSet hs i0 a0 pi pa gs ch p0).1 = (X8_pages i a p0).1 ∧ RW hs z Vh i0 a0 i2 a2 len sg i (X8_pages i a p0).2) ∧
    (p0 = 5 ∨ p0 = 6 → S_X8_pictures i a p0 ∧ (X7_countInSet hs i0 a0 pi pa gs ch p0).1 = (X8_pictures i a p0).1 ∧ RW hs z Vh i0 a0 i2 a2 len sg i (X8_pictures i a p0).2) := by
  obtain ⟨b, ⟨L, F, Z, c⟩, d, g⟩ := id h
  have hL := c.1.1
  have hZ := c.1.2.2.1
  obtain ⟨s1, k1, gs', ch', m1, m2⟩ := lq_make c (pi := pi) (pa := pa) (gs := gs) (ch := ch)
  have e0 : X8_guessesAll i a 0 = a 0 := k1 0 (by decide) (by decide)
  have hR := h.guessed k1
  unfold X7_countInSet X8_pages S_X8_pages X8_pictures S_X8_pictures
  rw [m1]
  generalize X8_guessesAll i a = B at s1 k1 m2 e0 hR ⊢
  have cB : RS L F Z i0 a0 (B 0) := by rw [e0]; exact c
  have e2 : (2 : Int32) * (B 0 0) = nI (2 * L) := by rw [cB.1.l, show (2 : Int32) = nI 2 from rfl, pk_mul]
  have ez : B 0 2 = nI Z := cB.1.z
  have f1 := lq_fz (n := 2 * L) (by omega)
  have f2 := lq_fz (n := Z) (by omega)
  dsimp only
  rw [e2, ez]
  refine ⟨fun hp => ?_, fun hp => ?_⟩ <;> rcases hp with hp | hp <;> subst hp
  · obtain ⟨r1, r2, r3⟩ := lq_cLack (i := i) (a := a) (pi := nI Z) cB m2 _ _ 0 0 (by omega) f1 f1
    rw [if_pos (show (3 : Int32) = 3 from rfl)]
    exact ⟨⟨s1, fun x hx => ⟨by subst hx; rw [e2]; exact r3, trivial⟩⟩, r1, by rw [show X8_pages_L8 i a 3 (((nI (2 * L) : Int32).toInt - (0 : Int32).toInt).toNat + 1) 0 0 B = _ from rfl]; exact (congrArg (RW hs z Vh i0 a0 i2 a2 len sg i) r2).mpr hR⟩
  · obtain ⟨r1, r2, r3⟩ := lq_cDoubt (i := i) (a := a) (pi := nI Z) cB m2 _ _ 0 0 (by omega) f1 f1
    rw [if_neg (show ¬ (4 : Int32) = 3 by decide), if_pos (show (4 : Int32) = 4 from rfl)]
    exact ⟨⟨s1, fun x hx => ⟨by subst hx; rw [e2]; exact r3, trivial⟩⟩, r1, (congrArg (RW hs z Vh i0 a0 i2 a2 len sg i) r2).mpr hR⟩
  · obtain ⟨r1, r2, r3⟩ := lq_cSpare (i := i) (a := a) (pa := nI (2 * L)) cB m2 _ _ 0 0 (by omega) f2 f2
    rw [if_neg (show ¬ (5 : Int32) = 3 by decide), if_neg (show ¬ (5 : Int32) = 4 by decide), if_pos (show (5 : Int32) = 5 from rfl)]
    exact ⟨⟨s1, fun x hx => ⟨by subst hx; rw [ez]; exact r3, trivial⟩⟩, r1, (congrArg (RW hs z Vh i0 a0 i2 a2 len sg i) r2).mpr hR⟩
  · obtain ⟨r1, r2, r3⟩ := lq_cNot (i := i) (a := a) (pa := nI (2 * L)) cB m2 _ _ 0 0 (by omega) f2 f2
    rw [if_neg (show ¬ (6 : Int32) = 3 by decide), if_neg (show ¬ (6 : Int32) = 4 by decide), if_neg (show ¬ (6 : Int32) = 5 by decide), if_pos (show (6 : Int32) = 6 from rfl)]
    exact ⟨⟨s1, fun x hx => ⟨by subst hx; rw [ez]; exact r3, trivial⟩⟩, r1, (congrArg (RW hs z Vh i0 a0 i2 a2 len sg i) r2).mpr hR⟩
theorem sim_count (h : RW hs z Vh i0 a0 i2 a2 len sg i a) (p0 : Int32) :
    S_X8_count i a p0 ∧ (X7_count hs z Bh Vh i0 a0 len sg pi pa gs ch p0).1 = (X8_count i a p0).1 ∧ RW hs z Vh i0 a0 i2 a2 len sg i (X8_count i a p0).2 := by
  obtain ⟨⟨n, b⟩, ⟨L, F, Z, c⟩, d, t, g1, g2, g3, g4⟩ := id h
  have hi : z = i 0 := b.2.1.trans b.2.2.1.symm
  have i2l : len = i 2 := g2.trans g3.symm
  obtain ⟨u1, u2⟩ := lq_inSet (p0 := p0) (pi := pi) (pa := pa) (gs := gs) (ch := ch) h
  have st : ∀ w : Nat, w < 3 → X3_at 3 (a0 7) (nI w) = a 0 (9 + w) := fun w hw => (lq_at hw (by decide)).trans (c.2.2.1 w hw)
  unfold X7_count X8_count S_X8_count
  by_cases c0 : p0 = 0
  · rw [if_pos c0, if_pos c0]
    have ej : p0 = nI 0 := c0
    rw [ej]
    exact ⟨⟨fun _ => ⟨vp_in_nI (n := 0) (by decide) (by decide), trivial⟩, fun n => absurd rfl n⟩, c.i 0 (by decide), h⟩
  · rw [if_neg c0, if_neg c0]
    by_cases c1 : p0 = 1
    · rw [if_pos c1, if_pos c1]
      have ej : p0 = nI 1 := c1
      rw [ej]
      exact ⟨⟨fun n => absurd (ej.trans n) c0, fun _ => ⟨fun _ => ⟨vp_in_nI (n := 1) (by decide) (by decide), trivial⟩, fun n => absurd rfl n⟩⟩, c.i 1 (by decide), h⟩
    · rw [if_neg c1, if_neg c1]
      by_cases c2 : p0 = 2
      · rw [if_pos c2, if_pos c2]
        have ej : p0 = nI 2 := c2
        rw [ej]
        exact ⟨⟨fun n => absurd (ej.trans n) c0, fun _ => ⟨fun n => absurd (ej.trans n) c1, fun _ => ⟨fun _ => ⟨vp_in_nI (n := 2) (by decide) (by decide), trivial⟩, fun n => absurd rfl n⟩⟩⟩, c.i 2 (by decide), h⟩
      · rw [if_neg c2, if_neg c2]
        by_cases c3 : p0 = 3
        · obtain ⟨s1, s2, s3⟩ := u1 (Or.inl c3)
          rw [if_pos c3, if_pos c3]
          exact ⟨⟨fun n => absurd n c0, fun _ => ⟨fun n => absurd n c1, fun _ => ⟨fun n => absurd n c2, fun _ => ⟨fun _ => ⟨s1, fun _ _ => trivial⟩, fun n => absurd c3 n⟩⟩⟩⟩, s2, s3⟩
        · rw [if_neg c3, if_neg c3]
          by_cases c4 : p0 = 4
          · obtain ⟨s1, s2, s3⟩ := u1 (Or.inr c4)
            rw [if_pos c4, if_pos c4]
            exact ⟨⟨fun n => absurd n c0, fun _ => ⟨fun n => absurd n c1, fun _ => ⟨fun n => absurd n c2, fun _ => ⟨fun n => absurd n c3, fun _ => ⟨fun _ => ⟨s1, fun _ _ => trivial⟩, fun n => absurd c4 n⟩⟩⟩⟩⟩, s2, s3⟩
          · rw [if_neg c4, if_neg c4]
            by_cases c5 : p0 = 5
            · obtain ⟨s1, s2, s3⟩ := u2 (Or.inl c5)
              rw [if_pos c5, if_pos c5]
              exact ⟨⟨fun n => absurd n c0, fun _ => ⟨fun n => absurd n c1, fun _ => ⟨fun n => absurd n c2, fun _ => ⟨fun n => absurd n c3, fun _ => ⟨fun n => absurd n c4, fun _ => ⟨fun _ => ⟨s1, fun _ _ => trivial⟩, fun n => absurd c5 n⟩⟩⟩⟩⟩⟩, s2, s3⟩
            · rw [if_neg c5, if_neg c5]
              by_cases c6 : p0 = 6
              · obtain ⟨s1, s2, s3⟩ := u2 (Or.inr c6)
                rw [if_pos c6, if_pos c6]
                exact ⟨⟨fun n => absurd n c0, fun _ => ⟨fun n => absurd n c1, fun _ => ⟨fun n => absurd n c2, fun _ => ⟨fun n => absurd n c3, fun _ => ⟨fun n => absurd n c4, fun _ => ⟨fun n => absurd n c5, fun _ => ⟨fun _ => ⟨s1, fun _ _ => trivial⟩, fun n => absurd c6 n⟩⟩⟩⟩⟩⟩⟩, s2, s3⟩
              · rw [if_neg c6, if_neg c6]
                by_cases c7 : p0 = 7
                · have ej : ((4 + p0) - 7 : Int32) = nI 4 := by rw [c7]; rfl
                  rw [if_pos c7, if_pos c7, ej]
                  exact ⟨⟨fun n => absurd n c0, fun _ => ⟨fun n => absurd n c1, fun _ => ⟨fun n => absurd n c2, fun _ => ⟨fun n => absurd n c3, fun _ => ⟨fun n => absurd n c4, fun _ => ⟨fun n => absurd n c5, fun _ => ⟨fun n => absurd n c6, fun _ => ⟨fun _ => ⟨vp_in_nI (by decide) (by decide), trivial⟩, fun n => absurd c7 n⟩⟩⟩⟩⟩⟩⟩⟩, c.i 4 (by decide), h⟩
                · rw [if_neg c7, if_neg c7]
                  by_cases c8 : p0 = 8
                  · have ej : ((4 + p0) - 7 : Int32) = nI 5 := by rw [c8]; rfl
                    rw [if_pos c8, if_pos c8, ej]
                    exact ⟨⟨fun n => absurd n c0, fun _ => ⟨fun n => absurd n c1, fun _ => ⟨fun n => absurd n c2, fun _ => ⟨fun n => absurd n c3, fun _ => ⟨fun n => absurd n c4, fun _ => ⟨fun n => absurd n c5, fun _ => ⟨fun n => absurd n c6, fun _ => ⟨fun n => absurd n c7, fun _ => ⟨fun _ => ⟨vp_in_nI (by decide) (by decide), trivial⟩, fun n => absurd c8 n⟩⟩⟩⟩⟩⟩⟩⟩⟩, c.i 5 (by decide), h⟩
                  · rw [if_neg c8, if_neg c8]
                    by_cases c9 : p0 = 9
                    · have ej : ((4 + p0) - 7 : Int32) = nI 6 := by rw [c9]; rfl
                      rw [if_pos c9, if_pos c9, ej]
                      exact ⟨⟨fun n => absurd n c0, fun _ => ⟨fun n => absurd n c1, fun _ => ⟨fun n => absurd n c2, fun _ => ⟨fun n => absurd n c3, fun _ => ⟨fun n => absurd n c4, fun _ => ⟨fun n => absurd n c5, fun _ => ⟨fun n => absurd n c6, fun _ => ⟨fun n => absurd n c7, fun _ => ⟨fun n => absurd n c8, fun _ => ⟨fun _ => ⟨vp_in_nI (by decide) (by decide), trivial⟩, fun n => absurd c9 n⟩⟩⟩⟩⟩⟩⟩⟩⟩⟩, c.i 6 (by decide), h⟩
                    · rw [if_neg c9, if_neg c9]
                      by_cases c10 : p0 = 10
                      · have ej : ((8 + p0) - 10 : Int32) = nI 8 := by rw [c10]; rfl
                        rw [if_pos c10, if_pos c10, ej]
                        exact ⟨⟨fun n => absurd n c0, fun _ => ⟨fun n => absurd n c1, fun _ => ⟨fun n => absurd n c2, fun _ => ⟨fun n => absurd n c3, fun _ => ⟨fun n => absurd n c4, fun _ => ⟨fun n => absurd n c5, fun _ => ⟨fun n => absurd n c6, fun _ => ⟨fun n => absurd n c7, fun _ => ⟨fun n => absurd n c8, fun _ => ⟨fun n => absurd n c9, fun _ => ⟨fun _ => ⟨vp_in_nI (by decide) (by decide), trivial⟩, fun n => absurd c10 n⟩⟩⟩⟩⟩⟩⟩⟩⟩⟩⟩, c.i 8 (by decide), h⟩
                      · rw [if_neg c10, if_neg c10]
                        by_cases c11 : p0 = 11
                        · have ej : ((8 + p0) - 10 : Int32) = nI 9 := by rw [c11]; rfl
                          rw [if_pos c11, if_pos c11, ej]
                          exact ⟨⟨fun n => absurd n c0, fun _ => ⟨fun n => absurd n c1, fun _ => ⟨fun n => absurd n c2, fun _ => ⟨fun n => absurd n c3, fun _ => ⟨fun n => absurd n c4, fun _ => ⟨fun n => absurd n c5, fun _ => ⟨fun n => absurd n c6, fun _ => ⟨fun n => absurd n c7, fun _ => ⟨fun n => absurd n c8, fun _ => ⟨fun n => absurd n c9, fun _ => ⟨fun n => absurd n c10, fun _ => ⟨fun _ => ⟨vp_in_nI (by decide) (by decide), trivial⟩, fun n => absurd c11 n⟩⟩⟩⟩⟩⟩⟩⟩⟩⟩⟩⟩, st 0 (by decide), h⟩
                        · rw [if_neg c11, if_neg c11]
                          by_cases c12 : p0 = 12
                          · have ej : ((8 + p0) - 10 : Int32) = nI 10 := by rw [c12]; rfl
                            rw [if_pos c12, if_pos c12, ej]
                            exact ⟨⟨fun n => absurd n c0, fun _ => ⟨fun n => absurd n c1, fun _ => ⟨fun n => absurd n c2, fun _ => ⟨fun n => absurd n c3, fun _ => ⟨fun n => absurd n c4, fun _ => ⟨fun n => absurd n c5, fun _ => ⟨fun n => absurd n c6, fun _ => ⟨fun n => absurd n c7, fun _ => ⟨fun n => absurd n c8, fun _ => ⟨fun n => absurd n c9, fun _ => ⟨fun n => absurd n c10, fun _ => ⟨fun n => absurd n c11, fun _ => ⟨fun _ => ⟨vp_in_nI (by decide) (by decide), trivial⟩, fun n => absurd c12 n⟩⟩⟩⟩⟩⟩⟩⟩⟩⟩⟩⟩⟩, st 1 (by decide), h⟩
                          · rw [if_neg c12, if_neg c12]
                            by_cases c13 : p0 = 13
                            · have ej : ((8 + p0) - 10 : Int32) = nI 11 := by rw [c13]; rfl
                              rw [if_pos c13, if_pos c13, ej]
                              exact ⟨⟨fun n => absurd n c0, fun _ => ⟨fun n => absurd n c1, fun _ => ⟨fun n => absurd n c2, fun _ => ⟨fun n => absurd n c3, fun _ => ⟨fun n => absurd n c4, fun _ => ⟨fun n => absurd n c5, fun _ => ⟨fun n => absurd n c6, fun _ => ⟨fun n => absurd n c7, fun _ => ⟨fun n => absurd n c8, fun _ => ⟨fun n => absurd n c9, fun _ => ⟨fun n => absurd n c10, fun _ => ⟨fun n => absurd n c11, fun _ => ⟨fun n => absurd n c12, fun _ => ⟨fun _ => ⟨vp_in_nI (by decide) (by decide), trivial⟩, fun n => absurd c13 n⟩⟩⟩⟩⟩⟩⟩⟩⟩⟩⟩⟩⟩⟩, st 2 (by decide), h⟩
                            · rw [if_neg c13, if_neg c13]
                              by_cases c14 : p0 = 14
                              · rw [if_pos c14, if_pos c14]
                                exact ⟨⟨fun n => absurd n c0, fun _ => ⟨fun n => absurd n c1, fun _ => ⟨fun n => absurd n c2, fun _ => ⟨fun n => absurd n c3, fun _ => ⟨fun n => absurd n c4, fun _ => ⟨fun n => absurd n c5, fun _ => ⟨fun n => absurd n c6, fun _ => ⟨fun n => absurd n c7, fun _ => ⟨fun n => absurd n c8, fun _ => ⟨fun n => absurd n c9, fun _ => ⟨fun n => absurd n c10, fun _ => ⟨fun n => absurd n c11, fun _ => ⟨fun n => absurd n c12, fun _ => ⟨fun n => absurd n c13, fun _ => ⟨fun _ => trivial, fun n => absurd c14 n⟩⟩⟩⟩⟩⟩⟩⟩⟩⟩⟩⟩⟩⟩⟩, c.i 3 (by decide), h⟩
                              · rw [if_neg c14, if_neg c14]
                                by_cases c15 : p0 = 15
                                · rw [if_pos c15, if_pos c15]
                                  exact ⟨⟨fun n => absurd n c0, fun _ => ⟨fun n => absurd n c1, fun _ => ⟨fun n => absurd n c2, fun _ => ⟨fun n => absurd n c3, fun _ => ⟨fun n => absurd n c4, fun _ => ⟨fun n => absurd n c5, fun _ => ⟨fun n => absurd n c6, fun _ => ⟨fun n => absurd n c7, fun _ => ⟨fun n => absurd n c8, fun _ => ⟨fun n => absurd n c9, fun _ => ⟨fun n => absurd n c10, fun _ => ⟨fun n => absurd n c11, fun _ => ⟨fun n => absurd n c12, fun _ => ⟨fun n => absurd n c13, fun _ => ⟨fun n => absurd n c14, fun _ => ⟨fun _ => trivial, fun n => absurd c15 n⟩⟩⟩⟩⟩⟩⟩⟩⟩⟩⟩⟩⟩⟩⟩⟩, hi, h⟩
                                · rw [if_neg c15, if_neg c15]
                                  by_cases c16 : p0 = 16
                                  · rw [if_pos c16, if_pos c16]
                                    exact ⟨⟨fun n => absurd n c0, fun _ => ⟨fun n => absurd n c1, fun _ => ⟨fun n => absurd n c2, fun _ => ⟨fun n => absurd n c3, fun _ => ⟨fun n => absurd n c4, fun _ => ⟨fun n => absurd n c5, fun _ => ⟨fun n => absurd n c6, fun _ => ⟨fun n => absurd n c7, fun _ => ⟨fun n => absurd n c8, fun _ => ⟨fun n => absurd n c9, fun _ => ⟨fun n => absurd n c10, fun _ => ⟨fun n => absurd n c11, fun _ => ⟨fun n => absurd n c12, fun _ => ⟨fun n => absurd n c13, fun _ => ⟨fun n => absurd n c14, fun _ => ⟨fun n => absurd n c15, fun _ => ⟨fun _ => trivial, fun n => absurd c16 n⟩⟩⟩⟩⟩⟩⟩⟩⟩⟩⟩⟩⟩⟩⟩⟩⟩, i2l, h⟩
                                  · rw [if_neg c16, if_neg c16]
                                    exact ⟨⟨fun n => absurd n c0, fun _ => ⟨fun n => absurd n c1, fun _ => ⟨fun n => absurd n c2, fun _ => ⟨fun n => absurd n c3, fun _ => ⟨fun n => absurd n c4, fun _ => ⟨fun n => absurd n c5, fun _ => ⟨fun n => absurd n c6, fun _ => ⟨fun n => absurd n c7, fun _ => ⟨fun n => absurd n c8, fun _ => ⟨fun n => absurd n c9, fun _ => ⟨fun n => absurd n c10, fun _ => ⟨fun n => absurd n c11, fun _ => ⟨fun n => absurd n c12, fun _ => ⟨fun n => absurd n c13, fun _ => ⟨fun n => absurd n c14, fun _ => ⟨fun n => absurd n c15, fun _ => ⟨fun n => absurd n c16, fun _ => trivial⟩⟩⟩⟩⟩⟩⟩⟩⟩⟩⟩⟩⟩⟩⟩⟩⟩, rfl, h⟩
end COUNT
