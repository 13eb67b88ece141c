set_option maxRecDepth 100000
section LEAFT
variable {hs z : Int32} {Bh : Nat → Nat → Nat} {Vh : Nat → lt_SV} {i0 : Nat → Int32} {a0 : Nat → Nat → Int32} {i1 : Nat → Int32} {a1 : Nat → Nat → Int32} {i2 : Nat → Int32} {a2 : Nat → Nat → Int32} {len : Int32} {sg : Nat → Int32} {i : Nat → Int32} {a : Nat → Nat → Int32}
/-- what the class does behind a leaf that is told -/
def lq_next (t m n : Nat) (sg : Nat → Int32) (L_ : Int32) (w_ st_ q_ : Nat → Int32) (fu : Nat) (w st Q : Nat → Int32) : Int32 × (Int32 × (Nat → Int32) × (Nat → Int32) × (Nat → Int32)) :=
  if nI m = nI t then ((-5), (nI (n + 1), w, st, Q)) else (if X1_is (nI t) sg (nI m) 44 = 0 then (nI m, (nI (n + 1), w, st, Q)) else (if nI n = 29 then (nI m, (nI (n + 1), w, st, Q)) else X1_readInto_L9 (nI t) sg L_ w_ st_ q_ fu (nI (m + 1)) (nI (n + 1)) (nI (n + 1)) w st Q))
theorem lq_leaf {t s n : Nat} {b : Nat → Nat → Int32} (h : TX t s sg i b) (h4 : i 4 = nI n) (hn : n < 30) :
    S_X8_isLeafTold i b ∧ ∃ (i' : Nat → Int32) (b' : Nat → Nat → Int32), (∀ k, k ≠ 3 → i' k = i k) ∧ (∀ j, j ≠ 7 → b' j = b j) ∧
    ((X8_isLeafTold i b = (0, (i', b')) ∧ ∃ v : Nat, v < 1000 ∧ i' 3 = nI v ∧ ∀ (L_ : Int32) (w_ st_ q_ : Nat → Int32) (fu : Nat) (w st q : Nat → Int32), X1_readInto_L9 (nI t) sg L_ w_ st_ q_ (fu + 1) (nI s) (nI n) (nI n) w st q = (nI v, (nI n, w, st, q))) ∨
     ∃ (m : Nat) (wv sv mk : Int32), s < m ∧ m ≤ t ∧ i' 3 = nI m ∧ X8_isLeafTold i b = (1, (i', b')) ∧ (∀ k, k < 3 * n → b' 7 k = b 7 k) ∧ b' 7 (3 * n) = wv ∧ b' 7 (3 * n + 1) = sv ∧ b' 7 (3 * n + 2) = mk ∧
       ∀ (L_ : Int32) (w_ st_ q_ : Nat → Int32) (fu : Nat) (w st q : Nat → Int32), ∃ Q, QP n mk q Q ∧ X1_readInto_L9 (nI t) sg L_ w_ st_ q_ (fu + 1) (nI s) (nI n) (nI n) w st q = lq_next t m n sg L_ w_ st_ q_ fu (upd w n wv) (upd st n sv) Q) := by
  have ht := h.1
  have hst := h.2.1
  have e1 : (3 : Int32) * (i 4) + 1 = nI (3 * n + 1) := by rw [h4, show (3 : Int32) = nI 3 from rfl, pk_mul, nI_1]
  have v1 : vp_in ((3 : Int32) * (i 4) + 1) 93 := by rw [e1]; exact vp_in_nI (by omega) (by decide)
  have c1 : ((3 : Int32) * (i 4) + 1).toNatClampNeg = 3 * n + 1 := by rw [e1]; exact nI_clamp (by omega)
  have g30 : ¬ (30 : Int32) ≤ nI n := nI_ge (b := 30) hn (by decide)
  generalize hb1 : va_up b 7 (upd (b 7) (3 * n + 1) 0) = b1
  have b17 : b1 7 = upd (b 7) (3 * n + 1) 0 := by rw [← hb1]; exact lq_row 7
  have b1j : ∀ j, j ≠ 7 → b1 j = b j := fun j hj => by rw [← hb1]; exact lq_rown hj
  have h1 : TX t s sg i b1 := ⟨h.1, h.2.1, h.2.2.1, h.2.2.2.1, fun k hk => by rw [b1j 4 (by decide)]; exact h.2.2.2.2 k hk⟩
  obtain ⟨sd, d⟩ := lq_digit h1 h4 hn (j := 0) (c := 0) (by decide) rfl
  unfold X8_isLeafTold S_X8_isLeafTold
  rw [c1, hb1]
  rcases d with ⟨d1, d2⟩ | ⟨hs1, d1, d2⟩
  · rw [d2]
    dsimp only
    rw [if_pos (show (0 : Int32) = 0 from rfl)]
    refine ⟨⟨v1, sd, fun x hx => ⟨fun _ => trivial, fun q => absurd (by rw [hx]) q⟩⟩, i, b1, fun _ _ => rfl, b1j, Or.inl ⟨rfl, s, by omega, h.2.2.2.1, fun L_ w_ st_ q_ fu w st q => ?_⟩⟩
    refine (if_neg g30).trans ?_
    rw [d1]
    exact if_pos rfl
  · generalize hD : X1_digit (nI t) sg (nI s) = D at d2
    generalize hi1 : upd i 3 (nI (s + 1)) = j1 at d2
    generalize hb2 : va_up b1 7 (upd (b1 7) (3 * n + 0) D) = b2 at d2
    have j13 : j1 3 = nI (s + 1) := by rw [← hi1]; exact pk_us
    have j1k : ∀ k, k ≠ 3 → j1 k = i k := fun k hk => by rw [← hi1]; exact pk_un hk
    have b27 : b2 7 = upd (upd (b 7) (3 * n + 1) 0) (3 * n) D := by rw [← hb2, lq_row, b17]; rfl
    have b2j : ∀ j, j ≠ 7 → b2 j = b j := fun j hj => by rw [← hb2]; exact (lq_rown hj).trans (b1j j hj)
    have h2 : TX t (s + 1) sg j1 b2 := ⟨h.1, hs1, (j1k 2 (by decide)).trans h.2.2.1, j13, fun k hk => by rw [b2j 4 (by decide)]; exact h.2.2.2.2 k hk⟩
    obtain ⟨ss, r, hr, f1, f2⟩ := lq_sign h2 115
    rw [d2]
    dsimp only
    rw [if_neg (show ¬ (1 : Int32) = 0 by decide), f2]
    dsimp only
    rcases hr with hr | ⟨hr, hs2⟩
    · subst hr
      generalize hi2 : upd j1 3 (nI (s + 1 + 0)) = j2 at f2
      have j23 : j2 3 = nI (s + 1) := by rw [← hi2]; exact pk_us
      have j2k : ∀ k, k ≠ 3 → j2 k = i k := fun k hk => by rw [← hi2]; exact (pk_un hk).trans (j1k k hk)
      have h3 : TX t (s + 1) sg j2 b2 := ⟨h.1, hs1, (j2k 2 (by decide)).trans h.2.2.1, j23, h2.2.2.2.2⟩
      obtain ⟨m1, m2, m3, r, mk, hrt, hr1, m4, m5⟩ := lq_mark (wv := D) (sv := 0) h3 ((j2k 4 (by decide)).trans h4) hn
      rw [if_pos (show nI 0 = 0 from nI_0)]
      refine ⟨⟨v1, sd, fun x hx => ⟨fun _ => trivial, fun _ => ?_⟩⟩, _, _, ?_, ?_, Or.inr ⟨s + 1 + r, D, 0, mk, by omega, hrt, ?_, m4, fun k hk => ?_, ?_, ?_, ?_, fun L_ w_ st_ q_ fu w st q => ?_⟩⟩
      · subst hx
        refine ⟨ss, fun x hx => ⟨fun _ => ?_, fun n => ?_⟩⟩
        · rw [f2] at hx
          subst hx
          exact ⟨m1, fun y hy => ⟨fun q => ⟨(m2 y hy q).1, fun _ _ => ⟨fun _ => ⟨m3, trivial⟩, fun _ => ⟨m3, trivial⟩⟩⟩, fun _ => ⟨m3, trivial⟩⟩⟩
        · exact absurd (by rw [hx, f2]; exact nI_0) n
      · intro k hk; rw [pk_un hk, pk_un hk]; exact j2k k hk
      · intro j hj; rw [lq_rown hj]; exact b2j j hj
      · exact pk_us
      · rw [lq_row, pk_un (by omega), b27, pk_un (by omega), pk_un (by omega)]
      · rw [lq_row, pk_un (by omega), b27, pk_us]
      · rw [lq_row, pk_un (by omega), b27, pk_un (by omega), pk_us]
      · rw [lq_row, pk_us]
      · obtain ⟨Q, hQ, eQ⟩ := m5 w st q
        refine ⟨Q, hQ, (if_neg g30).trans ?_⟩
        rw [d1, hD, nI_1 s, f1]
        dsimp only
        rw [if_neg (show ¬ (1 : Int32) = 0 by decide), if_pos (show nI 0 = 0 from nI_0), lq_addLeaf rfl hn]
        dsimp only
        rw [eQ]
        dsimp only
        rw [nI_add]
        unfold lq_next
        rw [nI_1 (s + 1 + r), nI_1 n]
    · subst hr
      generalize hi2 : upd j1 3 (nI (s + 1 + 1)) = j2 at f2
      have j23 : j2 3 = nI (s + 1 + 1) := by rw [← hi2]; exact pk_us
      have j2k : ∀ k, k ≠ 3 → j2 k = i k := fun k hk => by rw [← hi2]; exact (pk_un hk).trans (j1k k hk)
      have h3 : TX t (s + 1 + 1) sg j2 b2 := ⟨h.1, hs2, (j2k 2 (by decide)).trans h.2.2.1, j23, h2.2.2.2.2⟩
      obtain ⟨se, e⟩ := lq_digit h3 ((j2k 4 (by decide)).trans h4) hn (j := 1) (c := 1) (by decide) rfl
      rw [if_neg (show ¬ nI 1 = 0 by decide)]
      rcases e with ⟨e1, e2⟩ | ⟨hs3, e1, e2⟩
      · rw [e2]
        dsimp only
        rw [if_pos (show (0 : Int32) = 0 from rfl)]
        refine ⟨⟨v1, sd, fun x hx => ⟨fun _ => trivial, fun _ => ?_⟩⟩, j2, b2, j2k, b2j, Or.inl ⟨rfl, s + 1 + 1, by omega, j23, fun L_ w_ st_ q_ fu w st q => ?_⟩⟩
        · subst hx
          refine ⟨ss, fun x hx => ⟨fun q => ?_, fun _ => ?_⟩⟩
          · rw [hx, f2] at q; exact absurd q (show ¬ nI 1 = 0 by decide)
          · rw [f2] at hx
            subst hx
            refine ⟨se, fun x hx => ⟨fun _ => trivial, fun q => ?_⟩⟩
            exact absurd (by rw [hx]; exact congrArg Prod.fst e2) q
        · refine (if_neg g30).trans ?_
          rw [d1, hD, nI_1 s, f1, nI_1 (s + 1), e1]
          dsimp only
          rw [if_neg (show ¬ (1 : Int32) = 0 by decide), if_neg (show ¬ nI 1 = 0 by decide)]
          exact if_pos rfl
      · generalize hD2 : X1_digit (nI t) sg (nI (s + 1 + 1)) = D2 at e2
        generalize hi3 : upd j2 3 (nI (s + 1 + 1 + 1)) = j3 at e2
        generalize hb3 : va_up b2 7 (upd (b2 7) (3 * n + 1) D2) = b3 at e2
        have j33 : j3 3 = nI (s + 1 + 1 + 1) := by rw [← hi3]; exact pk_us
        have j3k : ∀ k, k ≠ 3 → j3 k = i k := fun k hk => by rw [← hi3]; exact (pk_un hk).trans (j2k k hk)
        have b37 : b3 7 = upd (upd (upd (b 7) (3 * n + 1) 0) (3 * n) D) (3 * n + 1) D2 := by rw [← hb3, lq_row, b27]
        have b3j : ∀ j, j ≠ 7 → b3 j = b j := fun j hj => by rw [← hb3]; exact (lq_rown hj).trans (b2j j hj)
        have h5 : TX t (s + 1 + 1 + 1) sg j3 b3 := ⟨h.1, hs3, (j3k 2 (by decide)).trans h.2.2.1, j33, fun k hk => by rw [b3j 4 (by decide)]; exact h.2.2.2.2 k hk⟩
        obtain ⟨m1, m2, m3, r, mk, hrt, hr1, m4, m5⟩ := lq_mark (wv := D) (sv := D2) h5 ((j3k 4 (by decide)).trans h4) hn
        rw [e2]
        dsimp only
        rw [if_neg (show ¬ (1 : Int32) = 0 by decide)]
        refine ⟨⟨v1, sd, fun x hx => ⟨fun _ => trivial, fun _ => ?_⟩⟩, _, _, ?_, ?_, Or.inr ⟨s + 1 + 1 + 1 + r, D, D2, mk, by omega, hrt, ?_, m4, fun k hk => ?_, ?_, ?_, ?_, fun L_ w_ st_ q_ fu w st q => ?_⟩⟩
        · subst hx
          refine ⟨ss, fun x hx => ⟨fun q => ?_, fun _ => ?_⟩⟩
          · rw [hx, f2] at q; exact absurd q (show ¬ nI 1 = 0 by decide)
          · rw [f2] at hx
            subst hx
            refine ⟨se, fun x hx => ⟨fun _ => trivial, fun _ => ?_⟩⟩
            have hx : x = (1, (j3, b3)) := hx.trans e2
            subst hx
            exact ⟨m1, fun y hy => ⟨fun q => ⟨(m2 y hy q).1, fun _ _ => ⟨fun _ => ⟨m3, trivial⟩, fun _ => ⟨m3, trivial⟩⟩⟩, fun _ => ⟨m3, trivial⟩⟩⟩
        · intro k hk; rw [pk_un hk, pk_un hk]; exact j3k k hk
        · intro j hj; rw [lq_rown hj]; exact b3j j hj
        · exact pk_us
        · rw [lq_row, pk_un (by omega), b37, pk_un (by omega), pk_un (by omega), pk_un (by omega)]
        · rw [lq_row, pk_un (by omega), b37, pk_un (by omega), pk_us]
        · rw [lq_row, pk_un (by omega), b37, pk_us]
        · rw [lq_row, pk_us]
        · obtain ⟨Q, hQ, eQ⟩ := m5 w st q
          refine ⟨Q, hQ, (if_neg g30).trans ?_⟩
          rw [d1, hD, nI_1 s, f1, nI_1 (s + 1), e1, hD2, nI_1 (s + 1 + 1)]
          dsimp only
          rw [if_neg (show ¬ (1 : Int32) = 0 by decide), if_neg (show ¬ nI 1 = 0 by decide), if_neg (show ¬ (1 : Int32) = 0 by decide)]
          rw [lq_addLeaf rfl hn]
          dsimp only
          rw [eQ]
          dsimp only
          rw [nI_add]
          unfold lq_next
          rw [nI_1 (s + 1 + 1 + 1 + r), nI_1 n]
end LEAFT
