set_option maxRecDepth 100000
section TAKEB
variable {hs z : Int32} {Bh : Nat → Nat → Nat} {Vh : Nat → lt_SV} {i0 : Nat → Int32} {a0 : Nat → Nat → Int32} {i1 : Nat → Int32} {a1 : Nat → Nat → Int32} {i2 : Nat → Int32} {a2 : Nat → Nat → Int32} {len : Int32} {sg : Nat → Int32} {i : Nat → Int32} {a : Nat → Nat → Int32}
theorem lq_thas {t s : Nat} (ht : t ≤ 60) (hs : s < 1000) : (X1_has (nI t) sg (nI s) = 0 ∧ t ≤ s) ∨ (X1_has (nI t) sg (nI s) = 1 ∧ s < t) := by
  unfold X1_has
  rw [if_neg (nI_pos (by omega))]
  by_cases c : t ≤ s
  · left; exact ⟨if_pos (nI_le c (by omega)), c⟩
  · right
    rw [if_neg (nI_ge (by omega) (by omega)), if_neg (show ¬ (60 : Int32) ≤ nI s from nI_ge (b := 60) (by omega) (by decide))]
    exact ⟨rfl, by omega⟩
/-- what stands at a place, on both sides -/
def TX (t s : Nat) (sg : Nat → Int32) (i : Nat → Int32) (b : Nat → Nat → Int32) : Prop := t ≤ 60 ∧ s ≤ t ∧ i 2 = nI t ∧ i 3 = nI s ∧ ∀ k, k < t → sg k = b 4 k
theorem lq_sees {t s : Nat} {b : Nat → Nat → Int32} (h : TX t s sg i b) (lo hi : Int32) : S_X8_sees i b lo hi ∧ ((t = s ∧ X8_sees i b lo hi = 0) ∨ (s < t ∧ X8_sees i b lo hi = X8_in (sg s) lo hi)) := by
  obtain ⟨h1, h2, h3, h4, h5⟩ := h
  refine ⟨⟨fun _ => trivial, fun n => ⟨?_, fun _ _ => ⟨fun _ => trivial, fun _ => trivial⟩⟩⟩, ?_⟩
  · rw [h4]
    refine vp_in_nI ?_ (by decide)
    rcases Nat.lt_or_ge s t with q | q
    · omega
    · exact absurd (by rw [h3, h4]; exact nI_le q (by omega)) n
  · unfold X8_sees
    rw [h3, h4]
    by_cases c : t ≤ s
    · left; exact ⟨by omega, if_pos (nI_le c (by omega))⟩
    · right
      refine ⟨by omega, ?_⟩
      rw [if_neg (nI_ge (by omega) (by omega)), nI_clamp (by omega), ← h5 s (by omega)]
      have e : X8_in (sg s) lo hi = 0 ∨ X8_in (sg s) lo hi = 1 := by
        unfold X8_in
        by_cases c1 : sg s < lo
        · rw [if_pos c1]; exact Or.inl rfl
        · rw [if_neg c1]
          by_cases c2 : hi < sg s
          · rw [if_pos c2]; exact Or.inl rfl
          · rw [if_neg c2]; exact Or.inr rfl
      rcases e with e | e <;> rw [e]
      · exact if_pos rfl
      · exact if_neg (by decide)
/-- a sign taken, on both sides -/
theorem lq_sign {t s : Nat} {b : Nat → Nat → Int32} (h : TX t s sg i b) (c : Int32) : S_X8_takesSign i b c ∧ ∃ r : Nat, (r = 0 ∨ (r = 1 ∧ s < t)) ∧ X1_is (nI t) sg (nI s) c = nI r ∧ X8_takesSign i b c = (nI r, upd i 3 (nI (s + r))) := by
  obtain ⟨s1, s2⟩ := lq_sees h c c
  obtain ⟨h1, h2, h3, h4, h5⟩ := h
  refine ⟨⟨s1, fun _ _ => ⟨fun _ => trivial, fun _ => trivial⟩⟩, ?_⟩
  unfold X8_takesSign X1_is
  rcases lq_thas (sg := sg) h1 (show s < 1000 by omega) with ⟨x1, x2⟩ | ⟨x1, x2⟩
  · refine ⟨0, Or.inl rfl, ?_, ?_⟩
    · rw [x1]; exact if_pos rfl
    · rcases s2 with s2 | s2
      · rw [s2.2]
        dsimp only
        rw [if_pos (show (0 : Int32) = 0 from rfl), h4, Int32.add_zero]; rfl
      · omega
  · rcases s2 with s2 | s2
    · omega
    · rw [x1, s2.2, nI_clamp (by omega)]
      dsimp only
      rw [if_neg (show ¬ (1 : Int32) = 0 by decide), h4]
      unfold X8_in
      by_cases e : sg s = c
      · refine ⟨1, Or.inr ⟨rfl, x2⟩, if_pos e, ?_⟩
        rw [e, if_neg Int32.lt_irrefl, if_neg Int32.lt_irrefl, if_neg (show ¬ (1 : Int32) = 0 by decide), nI_1]; rfl
      · refine ⟨0, Or.inl rfl, if_neg e, ?_⟩
        by_cases c1 : sg s < c
        · rw [if_pos c1, if_pos (show (0 : Int32) = 0 from rfl), Int32.add_zero]; rfl
        · have c2 : c < sg s := by
            have h1 := lt_nlt c1
            rcases Int32.le_iff_lt_or_eq.mp h1 with q | q
            · exact q
            · exact absurd q.symm e
          rw [if_neg c1, if_pos c2, if_pos (show (0 : Int32) = 0 from rfl), Int32.add_zero]; rfl
/-- a digit, on both sides -/
theorem lq_digit {t s n j : Nat} {b : Nat → Nat → Int32} (h : TX t s sg i b) (h4 : i 4 = nI n) (hn : n < 30) (hj : j < 3) {c : Int32} (hc : c = nI j) : S_X8_isDigit i b c ∧
    ((X1_isDigit (nI t) sg (nI s) = 0 ∧ X8_isDigit i b c = (0, (i, b))) ∨ (s < t ∧ X1_isDigit (nI t) sg (nI s) = 1 ∧ X8_isDigit i b c = (1, (upd i 3 (nI (s + 1)), va_up b 7 (upd (b 7) (3 * n + j) (X1_digit (nI t) sg (nI s))))))) := by
  obtain ⟨s1, s2⟩ := lq_sees h 49 57
  obtain ⟨h1, h2, h3, h5, h6⟩ := h
  have e3 : (3 : Int32) * (i 4) + c = nI (3 * n + j) := by rw [h4, hc, show (3 : Int32) = nI 3 from rfl, pk_mul, nI_add]
  have v3 : vp_in ((3 : Int32) * (i 4) + c) 93 := by rw [e3]; exact vp_in_nI (by omega) (by decide)
  have c3 : ((3 : Int32) * (i 4) + c).toNatClampNeg = 3 * n + j := by rw [e3]; exact nI_clamp (by omega)
  refine ⟨⟨s1, fun r hr => ⟨fun _ => trivial, fun q => ⟨?_, v3, trivial⟩⟩⟩, ?_⟩
  · rw [h5]
    refine vp_in_nI ?_ (by decide)
    rcases s2 with s2 | s2
    · exact absurd (hr.trans s2.2) q
    · omega
  · unfold X8_isDigit X1_isDigit X1_digit
    rw [c3]
    rcases lq_thas (sg := sg) h1 (show s < 1000 by omega) with ⟨x1, x2⟩ | ⟨x1, x2⟩
    · left
      rcases s2 with s2 | s2
      · rw [x1, s2.2]; exact ⟨if_pos rfl, if_pos rfl⟩
      · omega
    · rcases s2 with s2 | s2
      · omega
      · rw [x1, s2.2, h5, nI_clamp (by omega), ← h6 s x2]
        dsimp only
        rw [if_neg (show ¬ (1 : Int32) = 0 by decide), if_neg (show ¬ (1 : Int32) = 0 by decide)]
        unfold X8_in
        by_cases c1 : sg s < 49
        · left; rw [if_pos c1]; exact ⟨rfl, if_pos rfl⟩
        · rw [if_neg c1]
          by_cases c2 : 57 < sg s
          · left; rw [if_pos c2]; exact ⟨rfl, if_pos rfl⟩
          · right; rw [if_neg c2, nI_1]; exact ⟨x2, rfl, if_neg (by decide)⟩
theorem lq_much {L : Nat} {w st q : Nat → Int32} (hL : L < 30) : X0_printTooMuchOnLast (nI (L + 1)) w st q = upd (upd q (2 * L) (nI (2 * L + 3))) (2 * L + 1) (nI (2 * L + 4)) := by
  have e0 : ∀ q, X0_pages (nI (L + 1)) w st q = nI (2 * L + 2) := by
    intro q
    unfold X0_pages
    rw [show (2 : Int32) = nI 2 from rfl, pk_mul]; congr 1
  have e1 : nI (2 * L + 2) - 2 = nI (2 * L) := pk_sub (a := 2 * L + 2) (b := 2) (by omega)
  have e2 : nI (2 * L + 2) - 1 = nI (2 * L + 1) := nI_pred (2 * L + 1)
  have e3 : nI (2 * L + 2) + 1 = nI (2 * L + 3) := nI_1 _
  have e4 : nI (2 * L + 2) + 2 = nI (2 * L + 4) := nI_add _ 2
  unfold X0_printTooMuchOnLast
  dsimp only
  rw [e0, e0, e1, e2, e3, e4, lq_put (by omega) (by decide), lq_put (by omega) (by decide)]
/-- what one leaf's printed numbers are -/
def QP (n : Nat) (mk : Int32) (q Q : Nat → Int32) : Prop := (∀ k, k < 2 * n → Q k = q k) ∧ Q (2 * n) = (if mk = (-5) then (-5) else nI (2 * n) + mk) ∧ Q (2 * n + 1) = (if mk = (-5) then (-5) else nI (2 * n + 1) + mk)
/-- the rest of a leaf, behind its digits, on both sides -/
theorem lq_mark {t s n : Nat} {b : Nat → Nat → Int32} {wv sv : Int32} (h : TX t s sg i b) (h4 : i 4 = nI n) (hn : n < 30) :
    S_X8_takesSign i b 42 ∧ (∀ x_56, x_56 = X8_takesSign i b 42 → (x_56.1 = 0 → S_X8_takesSign x_56.2 b 33 ∧ ∀ x_70, x_70 = X8_takesSign x_56.2 b 33 → True)) ∧ vp_in ((3 * (i 4)) + 2) 93 ∧
    ∃ (r : Nat) (mk : Int32), s + r ≤ t ∧ r ≤ 1 ∧
      (if (X8_takesSign i b 42).1 = 0 then (if (X8_takesSign (X8_takesSign i b 42).2 b 33).1 = 0 then ((1 : Int32), ((X8_takesSign (X8_takesSign i b 42).2 b 33).2, va_up b 7 (upd (b 7) ((3 * (i 4)) + 2).toNatClampNeg 1))) else ((1 : Int32), ((X8_takesSign (X8_takesSign i b 42).2 b 33).2, va_up b 7 (upd (b 7) ((3 * (i 4)) + 2).toNatClampNeg 3)))) else ((1 : Int32), ((X8_takesSign i b 42).2, va_up b 7 (upd (b 7) ((3 * (i 4)) + 2).toNatClampNeg (-5))))) = ((1 : Int32), (upd (upd i 3 (nI s)) 3 (nI (s + r)), va_up b 7 (upd (b 7) (3 * n + 2) mk))) ∧
      ∀ w st q : Nat → Int32, ∃ Q, QP n mk q Q ∧ X1_readMark (nI t) sg (nI (n + 1)) (upd w n wv) (upd st n sv) (upd (upd q (2 * n) (nI (2 * n + 1))) (2 * n + 1) (nI (2 * n + 2))) (nI s) = (nI r, Q) := by
  obtain ⟨s1, r, hr, e1, e2⟩ := lq_sign h 42
  have e3 : (3 : Int32) * (i 4) + 2 = nI (3 * n + 2) := by rw [h4, show (3 : Int32) = nI 3 from rfl, pk_mul, show (2 : Int32) = nI 2 from rfl, nI_add]
  have v3 : vp_in ((3 : Int32) * (i 4) + 2) 93 := by rw [e3]; exact vp_in_nI (by omega) (by decide)
  have c3 : ((3 : Int32) * (i 4) + 2).toNatClampNeg = 3 * n + 2 := by rw [e3]; exact nI_clamp (by omega)
  have h' : TX t s sg (upd i 3 (nI s)) b := ⟨h.1, h.2.1, h.2.2.1, pk_us, h.2.2.2.2⟩
  obtain ⟨s2, r2, hr2, e4, e5⟩ := lq_sign h' 33
  refine ⟨s1, fun x hx q => ⟨?_, fun _ _ => trivial⟩, v3, ?_⟩
  · rcases hr with hr | hr
    · subst hr; rw [hx, e2]; exact s2
    · rw [hx, e2, hr.1] at q; exact absurd q (show ¬ nI 1 = 0 by decide)
  · rw [e2, c3]
    dsimp only
    rcases hr with hr | ⟨hr, hst⟩
    · subst hr
      rw [if_pos (show nI 0 = 0 from nI_0), show s + 0 = s from rfl, e5]
      dsimp only
      rcases hr2 with hr2 | ⟨hr2, hst⟩
      · subst hr2
        rw [if_pos (show nI 0 = 0 from nI_0)]
        refine ⟨0, 1, by have := h.2.1; omega, by omega, rfl, fun w st q => ⟨(upd (upd q (2 * n) (nI (2 * n + 1))) (2 * n + 1) (nI (2 * n + 2))), ?_, ?_⟩⟩
        rotate_left
        · unfold X1_readMark
          rw [e1, e4]
          dsimp only
          rw [if_pos (show nI 0 = 0 from nI_0), if_pos (show nI 0 = 0 from nI_0)]; rfl
        · refine ⟨fun k hk => by rw [pk_un (by omega), pk_un (by omega)], ?_, ?_⟩
          · rw [pk_un (by omega), pk_us, if_neg (by decide), nI_1]
          · rw [pk_us, if_neg (by decide), nI_1]
      · subst hr2
        rw [if_neg (show ¬ nI 1 = 0 by decide)]
        refine ⟨1, 3, by omega, by omega, rfl, fun w st q => ⟨(upd (upd (upd (upd q (2 * n) (nI (2 * n + 1))) (2 * n + 1) (nI (2 * n + 2))) (2 * n) (nI (2 * n + 3))) (2 * n + 1) (nI (2 * n + 4))), ?_, ?_⟩⟩
        rotate_left
        · unfold X1_readMark
          rw [e1, e4]
          dsimp only
          rw [if_pos (show nI 0 = 0 from nI_0), if_neg (show ¬ nI 1 = 0 by decide), lq_much hn]; rfl
        · refine ⟨fun k hk => by rw [pk_un (by omega), pk_un (by omega), pk_un (by omega), pk_un (by omega)], ?_, ?_⟩
          · rw [pk_un (by omega), pk_us, if_neg (by decide)]; exact (nI_add _ 3).symm
          · rw [pk_us, if_neg (by decide)]; exact (nI_add _ 3).symm
    · subst hr
      rw [if_neg (show ¬ nI 1 = 0 by decide)]
      have eu : upd (upd i 3 (nI s)) 3 (nI (s + 1)) = upd i 3 (nI (s + 1)) := by
        funext k
        by_cases q : k = 3
        · subst q; rw [pk_us, pk_us]
        · rw [pk_un q, pk_un q, pk_un q]
      refine ⟨1, (-5), by omega, by omega, by rw [eu], fun w st q => ⟨(upd (upd (upd (upd q (2 * n) (nI (2 * n + 1))) (2 * n + 1) (nI (2 * n + 2))) (2 * n) (-5)) (2 * n + 1) (-5)), ?_, ?_⟩⟩
      rotate_left
      · unfold X1_readMark
        rw [e1]
        dsimp only
        rw [if_neg (show ¬ nI 1 = 0 by decide), lq_nothing hn]; rfl
      · refine ⟨fun k hk => by rw [pk_un (by omega), pk_un (by omega), pk_un (by omega), pk_un (by omega)], ?_, ?_⟩
        · rw [pk_un (by omega), pk_us, if_pos rfl]
        · rw [pk_us, if_pos rfl]
end TAKEB
