set_option maxRecDepth 100000
section LAYB
variable {hs z : Int32} {Bh : Nat → Nat → Nat} {Vh : Nat → lt_SV} {i0 : Nat → Int32} {a0 : Nat → Nat → Int32} {i1 : Nat → Int32} {a1 : Nat → Nat → Int32} {i2 : Nat → Int32} {a2 : Nat → Nat → Int32} {len : Int32} {sg : Nat → Int32} {i : Nat → Int32} {a : Nat → Nat → Int32}
/-- a leaf added, on the reference's side -/
def ad (f : Nat → Int32) (L : Nat) (w s x y : Int32) : Nat → Int32 := fun k => if k = 0 then nI (L + 1) else if k = 73 + 2 * L then y else if k = 72 + 2 * L then x else if k = 42 + L then s else if k = 12 + L then w else f k
theorem lq_addsL {b c : Nat → Nat → Int32} {L v fu : Nat} {w s p : Int32} (hl : b 0 0 = nI L) (hL : L < 30) (hv : v < 2 * L + 2) :
    X8_adds_L36 i b w s p (fu + 1) (nI v) c = X8_adds_L36 i b w s p fu (nI (v + 1)) (va_up c 0 (upd (c 0) (72 + v) (if p = (-5) then (-5) else nI v + p))) ∧
    (S_X8_adds_L36 i b w s p fu (nI (v + 1)) (va_up c 0 (upd (c 0) (72 + v) (if p = (-5) then (-5) else nI v + p))) → S_X8_adds_L36 i b w s p (fu + 1) (nI v) c) := by
  have e2 : (2 : Int32) * (b 0 0) + 2 = nI (2 * L + 2) := by rw [hl, show (2 : Int32) = nI 2 from rfl, pk_mul, nI_add]
  have g : ¬ (2 : Int32) * (b 0 0) + 2 ≤ nI v := by rw [e2]; exact nI_ge hv (by omega)
  have ec : ((72 : Int32) + nI v).toNatClampNeg = 72 + v := lq_c (m := 72) rfl (by omega)
  have vc : vp_in ((72 : Int32) + nI v) 532 := lq_v (m := 72) rfl (by omega) (by decide)
  by_cases q : p = (-5)
  · rw [if_pos q]
    refine ⟨?_, fun hs => ⟨fun n => absurd n g, fun _ => ⟨fun _ => ⟨vc, ?_, trivial⟩, fun n => absurd q n⟩⟩⟩
    · refine (if_neg g).trans ((if_pos q).trans ?_)
      rw [ec, nI_1]
    · rw [ec, nI_1]; exact hs
  · rw [if_neg q]
    refine ⟨?_, fun hs => ⟨fun n => absurd n g, fun _ => ⟨fun n => absurd n q, fun _ => ⟨vc, ?_, trivial⟩⟩⟩⟩
    · refine (if_neg g).trans ((if_neg q).trans ?_)
      rw [ec, nI_1]
    · rw [ec, nI_1]; exact hs
theorem lq_adds {b : Nat → Nat → Int32} {L : Nat} {w s p : Int32} (hl : b 0 0 = nI L) (hL : L < 30) :
    S_X8_adds i b w s p ∧ (∀ j, j ≠ 0 → X8_adds i b w s p j = b j) ∧ X8_adds i b w s p 0 = ad (b 0) L w s (if p = (-5) then (-5) else nI (2 * L) + p) (if p = (-5) then (-5) else nI (2 * L + 1) + p) := by
  have e0 : (2 : Int32) * (b 0 0) = nI (2 * L) := by rw [hl, show (2 : Int32) = nI 2 from rfl, pk_mul]
  have e2 : (2 : Int32) * (b 0 0) + 2 = nI (2 * L + 2) := by rw [e0, show (2 : Int32) = nI 2 from rfl, nI_add]
  have hf : (((((2 : Int32) * (b 0 0)) + 2 : Int32).toInt - ((2 * (b 0 0)) : Int32).toInt).toNat + 1) = 0 + 1 + 1 + 1 := by
    rw [e2, e0, nI_toInt (by omega), nI_toInt (by omega)]; omega
  have ea : ((12 : Int32) + (b 0 0)).toNatClampNeg = 12 + L := by rw [hl]; exact lq_c (m := 12) rfl (by omega)
  have eb : ((42 : Int32) + (b 0 0)).toNatClampNeg = 42 + L := by rw [hl]; exact lq_c (m := 42) rfl (by omega)
  have va : vp_in ((12 : Int32) + (b 0 0)) 532 := by rw [hl]; exact lq_v (m := 12) rfl (by omega) (by decide)
  have vb : vp_in ((42 : Int32) + (b 0 0)) 532 := by rw [hl]; exact lq_v (m := 42) rfl (by omega) (by decide)
  generalize hc : va_up b 0 (upd (upd (b 0) (12 + L) w) (42 + L) s) = c0
  have hc0 : c0 0 = upd (upd (b 0) (12 + L) w) (42 + L) s := by rw [← hc]; exact lq_row 0
  have hcj : ∀ j, j ≠ 0 → c0 j = b j := fun j hj => by rw [← hc]; exact lq_rown hj
  obtain ⟨a1, a2⟩ := lq_addsL (i := i) (c := c0) (fu := 0 + 1 + 1) (w := w) (s := s) (p := p) hl hL (v := 2 * L) (by omega)
  generalize hd : va_up c0 0 (upd (c0 0) (72 + 2 * L) (if p = (-5) then (-5) else nI (2 * L) + p)) = c1 at a1 a2
  have hd0 : c1 0 = upd (c0 0) (72 + 2 * L) (if p = (-5) then (-5) else nI (2 * L) + p) := by rw [← hd]; exact lq_row 0
  have hdj : ∀ j, j ≠ 0 → c1 j = b j := fun j hj => by rw [← hd]; exact (lq_rown hj).trans (hcj j hj)
  obtain ⟨b1, b2⟩ := lq_addsL (i := i) (c := c1) (fu := 0 + 1) (w := w) (s := s) (p := p) hl hL (v := 2 * L + 1) (by omega)
  generalize he : va_up c1 0 (upd (c1 0) (72 + (2 * L + 1)) (if p = (-5) then (-5) else nI (2 * L + 1) + p)) = c2 at b1 b2
  have he0 : c2 0 = upd (c1 0) (72 + (2 * L + 1)) (if p = (-5) then (-5) else nI (2 * L + 1) + p) := by rw [← he]; exact lq_row 0
  have hej : ∀ j, j ≠ 0 → c2 j = b j := fun j hj => by rw [← he]; exact (lq_rown hj).trans (hdj j hj)
  have g : (2 : Int32) * (b 0 0) + 2 ≤ nI (2 * L + 1 + 1) := by rw [e2]; exact nI_le (by omega) (by omega)
  have d1 : X8_adds_L36 i b w s p (0 + 1) (nI (2 * L + 1 + 1)) c2 = va_up c2 0 (upd (c2 0) 0 ((c2 0 0) + 1)) := if_pos g
  have d2 : S_X8_adds_L36 i b w s p (0 + 1) (nI (2 * L + 1 + 1)) c2 := ⟨fun _ => trivial, fun n => absurd g n⟩
  have e9 : X8_adds i b w s p = va_up c2 0 (upd (c2 0) 0 ((c2 0 0) + 1)) := by
    unfold X8_adds
    rw [hf, e0, ea, eb, hc, a1, b1, d1]
  have h00 : c2 0 0 = nI L := by
    rw [he0, pk_un (by omega), hd0, pk_un (by omega), hc0, pk_un (by omega), pk_un (by omega), hl]
  refine ⟨?_, fun j hj => ?_, ?_⟩
  · unfold S_X8_adds
    rw [hf, e0, ea, eb, hc]
    exact ⟨va, vb, a2 (b2 d2), trivial⟩
  · rw [e9, lq_rown hj]; exact hej j hj
  · rw [e9, lq_row, h00, nI_1, he0, hd0, hc0, show 72 + (2 * L + 1) = 73 + 2 * L by omega]
    rfl
/-- the class's book against the reference's row -/
def BK (L : Nat) (L0 : Int32) (w st q f f0 : Nat → Int32) : Prop :=
  L ≤ 30 ∧ L0 = nI L ∧ f 0 = nI L ∧ (∀ k, k < L → w k = f (12 + k) ∧ st k = f (42 + k)) ∧ (∀ k, k < 2 * L → q k = f (72 + k)) ∧ ∀ k, 1 ≤ k → k < 12 → f k = f0 k
theorem BK.step {L : Nat} {L0 : Int32} {w st q q' f f0 : Nat → Int32} (h : BK L L0 w st q f f0) (hL : L < 30) {wv sv x y : Int32} (hq : ∀ k, k < 2 * L → q' k = q k) (hx : q' (2 * L) = x) (hy : q' (2 * L + 1) = y) :
    BK (L + 1) (nI (L + 1)) (upd w L wv) (upd st L sv) q' (ad f L wv sv x y) f0 := by
  obtain ⟨h1, h2, h3, h4, h5, h6⟩ := h
  refine ⟨by omega, rfl, rfl, fun k hk => ?_, fun k hk => ?_, fun k h1 h2 => ?_⟩
  · by_cases c : k = L
    · subst c
      refine ⟨pk_us.trans ?_, pk_us.trans ?_⟩
      · unfold ad; rw [if_neg (by omega), if_neg (by omega), if_neg (by omega), if_neg (by omega), if_pos rfl]
      · unfold ad; rw [if_neg (by omega), if_neg (by omega), if_neg (by omega), if_pos rfl]
    · obtain ⟨u1, u2⟩ := h4 k (by omega)
      refine ⟨(pk_un c).trans (u1.trans ?_), (pk_un c).trans (u2.trans ?_)⟩
      · unfold ad; rw [if_neg (by omega), if_neg (by omega), if_neg (by omega), if_neg (by omega), if_neg (by omega)]
      · unfold ad; rw [if_neg (by omega), if_neg (by omega), if_neg (by omega), if_neg (by omega), if_neg (by omega)]
  · by_cases c : k = 2 * L
    · subst c
      rw [hx]; unfold ad; rw [if_neg (by omega), if_neg (by omega), if_pos rfl]
    · by_cases c2 : k = 2 * L + 1
      · subst c2
        rw [hy]; unfold ad; rw [if_neg (by omega), if_pos (by omega)]
      · rw [hq k (by omega), h5 k (by omega)]
        unfold ad; rw [if_neg (by omega), if_neg (by omega), if_neg (by omega), if_neg (by omega), if_neg (by omega)]
  · refine Eq.trans ?_ (h6 k h1 h2)
    unfold ad; rw [if_neg (by omega), if_neg (by omega), if_neg (by omega), if_neg (by omega), if_neg (by omega)]
theorem lq_addLeaf {L : Nat} {L0 : Int32} {w st q : Nat → Int32} {wv sv : Int32} (h : L0 = nI L) (hL : L < 30) : X0_addLeaf L0 w st q wv sv = (nI (L + 1), upd w L wv, upd st L sv, upd (upd q (2 * L) (nI (2 * L + 1))) (2 * L + 1) (nI (2 * L + 2))) := by
  subst h
  have e0 : (2 : Int32) * nI L = nI (2 * L) := by rw [show (2 : Int32) = nI 2 from rfl, pk_mul]
  unfold X0_addLeaf
  rw [if_pos (show nI L < (30 : Int32) from nI_lt (b := 30) hL (by decide)), lq_put (by omega) (by decide), lq_put (by omega) (by decide), e0, nI_1, lq_put (by omega) (by decide)]
  dsimp only
  rw [lq_put (by omega) (by decide), nI_1, show nI (2 * L) + 2 = nI (2 * L + 2) from nI_add _ 2]
theorem lq_nothing {L : Nat} {w st q : Nat → Int32} (hL : L < 30) : X0_printNothingOnLast (nI (L + 1)) w st q = upd (upd q (2 * L) (-5)) (2 * L + 1) (-5) := by
  have e0 : ∀ q, X0_pages (nI (L + 1)) w st q = nI (2 * L + 2) := by
    intro q
    unfold X0_pages
    rw [show (2 : Int32) = nI 2 from rfl, pk_mul]; congr 1
  have e1 : nI (2 * L + 2) - 2 = nI (2 * L) := pk_sub (a := 2 * L + 2) (b := 2) (by omega)
  have e2 : nI (2 * L + 2) - 1 = nI (2 * L + 1) := nI_pred (2 * L + 1)
  unfold X0_printNothingOnLast
  dsimp only
  rw [e0, e0, e1, e2, lq_put (by omega) (by decide), lq_put (by omega) (by decide)]
theorem lq_lay9 {V W s e v4 : Int32} {fu' k P : Nat} {p0 p1 : Int32} {ic : Nat → Int32} {b : Nat → Nat → Int32} {R : Prop} (h1 : S_X8_adds ic b W s e) (h2 : S_X8_layBook_L44 i a p0 p1 fu' V (v4 + W) (nI (k + 1)) ic (X8_adds ic b W s e)) :
    S_X8_adds ic b W s e ∧ ∀ x_108, x_108 = X8_adds ic b W s e → ∀ v_119, v_119 = v4 + W → (S_X8_layBook_L44 i a p0 p1 fu' V v_119 (nI k + 1) ic x_108) ∧ True := by
  refine ⟨h1, fun x hx v hv => ⟨?_, trivial⟩⟩
  rw [hx, hv, nI_1]; exact h2
/-- a book laid by a seed, on both sides -/
theorem lq_seedL {L_ : Int32} {w_ st_ q_ f0 : Nat → Int32} {P : Nat} {p1 : Int32} {ic : Nat → Int32} (hP : P ≤ 30) : ∀ (fu fu' k : Nat) (v3 v4 L0 : Int32) (w st q : Nat → Int32) (b : Nat → Nat → Int32), BK k L0 w st q (b 0) f0 → k ≤ P → P - k < fu → P - k < fu' →
    S_X8_layBook_L44 i a (nI P) p1 fu' v3 v4 (nI k) ic b ∧ ∃ (T L0' : Int32) (w' st' q' : Nat → Int32) (b' : Nat → Nat → Int32), X0_layBySeed_L13 L_ w_ st_ q_ (nI P) p1 fu v3 v4 (nI k) L0 w st q = (T, (L0', w', st', q')) ∧ X8_layBook_L44 i a (nI P) p1 fu' v3 v4 (nI k) ic b = (T, (ic, b')) ∧ (∀ j, j ≠ 0 → b' j = b j) ∧ BK P L0' w' st' q' (b' 0) f0 := by
  intro fu
  induction fu with
  | zero => intro fu' k v3 v4 L0 w st q b _ _ h; omega
  | succ fu ih =>
    intro fu' k v3 v4 L0 w st q b hB hk h1 h2
    cases fu' with
    | zero => omega
    | succ fu' =>
      by_cases c : k = P
      · subst c
        have g : nI k ≤ nI k := nI_le (Nat.le_refl _) (by omega)
        exact ⟨⟨fun _ => trivial, fun n => absurd g n⟩, v4, L0, w, st, q, b, if_pos g, if_pos g, fun _ _ => rfl, hB⟩
      · have g : ¬ nI P ≤ nI k := nI_ge (by omega) (by omega)
        obtain ⟨V, hV⟩ : ∃ V : Int32, V = ((421 * v3) + 1663) - ((421 * v3) + 1663) / 10000 * 10000 := ⟨_, rfl⟩
        obtain ⟨W, hW⟩ : ∃ W : Int32, W = 1 + (V - V / 5 * 5) := ⟨_, rfl⟩
        obtain ⟨U, hU⟩ : ∃ U : Int32, U = (V / 10) - (V / 10) / 10 * 10 := ⟨_, rfl⟩
        have eC : X0_layBySeed_L13 L_ w_ st_ q_ (nI P) p1 (fu + 1) v3 v4 (nI k) L0 w st q = (if 6 ≤ U then (if ((V / 100) - (V / 100) / 8 * 8) = 0 then X0_layBySeed_L13 L_ w_ st_ q_ (nI P) p1 fu V (v4 + W) (nI k + 1) (X0_addLeaf L0 w st q W U).1 (X0_addLeaf L0 w st q W U).2.1 (X0_addLeaf L0 w st q W U).2.2.1 (X0_printNothingOnLast (X0_addLeaf L0 w st q W U).1 (X0_addLeaf L0 w st q W U).2.1 (X0_addLeaf L0 w st q W U).2.2.1 (X0_addLeaf L0 w st q W U).2.2.2) else X0_layBySeed_L13 L_ w_ st_ q_ (nI P) p1 fu V (v4 + W) (nI k + 1) (X0_addLeaf L0 w st q W U).1 (X0_addLeaf L0 w st q W U).2.1 (X0_addLeaf L0 w st q W U).2.2.1 (X0_addLeaf L0 w st q W U).2.2.2) else (if ((V / 100) - (V / 100) / 8 * 8) = 0 then X0_layBySeed_L13 L_ w_ st_ q_ (nI P) p1 fu V (v4 + W) (nI k + 1) (X0_addLeaf L0 w st q W 0).1 (X0_addLeaf L0 w st q W 0).2.1 (X0_addLeaf L0 w st q W 0).2.2.1 (X0_printNothingOnLast (X0_addLeaf L0 w st q W 0).1 (X0_addLeaf L0 w st q W 0).2.1 (X0_addLeaf L0 w st q W 0).2.2.1 (X0_addLeaf L0 w st q W 0).2.2.2) else X0_layBySeed_L13 L_ w_ st_ q_ (nI P) p1 fu V (v4 + W) (nI k + 1) (X0_addLeaf L0 w st q W 0).1 (X0_addLeaf L0 w st q W 0).2.1 (X0_addLeaf L0 w st q W 0).2.2.1 (X0_addLeaf L0 w st q W 0).2.2.2)) := by
          rw [hU, hW, hV]; exact if_neg g
        have eR : X8_layBook_L44 i a (nI P) p1 (fu' + 1) v3 v4 (nI k) ic b = (if 6 ≤ U then (if ((V / 100) - (V / 100) / 8 * 8) = 0 then X8_layBook_L44 i a (nI P) p1 fu' V (v4 + W) (nI k + 1) ic (X8_adds ic b W U (-5)) else X8_layBook_L44 i a (nI P) p1 fu' V (v4 + W) (nI k + 1) ic (X8_adds ic b W U 1)) else (if ((V / 100) - (V / 100) / 8 * 8) = 0 then X8_layBook_L44 i a (nI P) p1 fu' V (v4 + W) (nI k + 1) ic (X8_adds ic b W 0 (-5)) else X8_layBook_L44 i a (nI P) p1 fu' V (v4 + W) (nI k + 1) ic (X8_adds ic b W 0 1))) := by
          rw [hU, hW, hV]; exact if_neg g
        have hS : (6 ≤ U → (((V / 100) - (V / 100) / 8 * 8) = 0 → (S_X8_adds ic b W U (-5)) ∧ ∀ x_108, x_108 = X8_adds ic b W U (-5) → ∀ v_119, v_119 = v4 + W → (S_X8_layBook_L44 i a (nI P) p1 fu' V v_119 (nI k + 1) ic x_108) ∧ True) ∧ (¬ (((V / 100) - (V / 100) / 8 * 8) = 0) → (S_X8_adds ic b W U 1) ∧ ∀ x_108, x_108 = X8_adds ic b W U 1 → ∀ v_119, v_119 = v4 + W → (S_X8_layBook_L44 i a (nI P) p1 fu' V v_119 (nI k + 1) ic x_108) ∧ True)) ∧ (¬ (6 ≤ U) → (((V / 100) - (V / 100) / 8 * 8) = 0 → (S_X8_adds ic b W 0 (-5)) ∧ ∀ x_108, x_108 = X8_adds ic b W 0 (-5) → ∀ v_119, v_119 = v4 + W → (S_X8_layBook_L44 i a (nI P) p1 fu' V v_119 (nI k + 1) ic x_108) ∧ True) ∧ (¬ (((V / 100) - (V / 100) / 8 * 8) = 0) → (S_X8_adds ic b W 0 1) ∧ ∀ x_108, x_108 = X8_adds ic b W 0 1 → ∀ v_119, v_119 = v4 + W → (S_X8_layBook_L44 i a (nI P) p1 fu' V v_119 (nI k + 1) ic x_108) ∧ True)) → S_X8_layBook_L44 i a (nI P) p1 (fu' + 1) v3 v4 (nI k) ic b := by
          intro hh
          refine ⟨fun n => absurd n g, fun _ v hv u hu => ?_⟩
          rw [← hV] at hv
          subst hv
          rw [← hU] at hu
          subst hu
          rw [← hW]
          exact hh
        have hl : b 0 0 = nI k := hB.2.2.1
        have go : ∀ (s e : Int32) (Q : Nat → Int32), (e = (-5) ∧ Q (2 * k) = (-5) ∧ Q (2 * k + 1) = (-5) ∨ e = 1 ∧ Q (2 * k) = nI (2 * k + 1) ∧ Q (2 * k + 1) = nI (2 * k + 2)) → (∀ j, j < 2 * k → Q j = q j) →
            (S_X8_adds ic b W s e ∧ ∀ x_108, x_108 = X8_adds ic b W s e → ∀ v_119, v_119 = v4 + W → (S_X8_layBook_L44 i a (nI P) p1 fu' V v_119 (nI k + 1) ic x_108) ∧ True) ∧
            ∃ (T L0' : Int32) (w' st' q' : Nat → Int32) (b' : Nat → Nat → Int32), X0_layBySeed_L13 L_ w_ st_ q_ (nI P) p1 fu V (v4 + W) (nI k + 1) (nI (k + 1)) (upd w k W) (upd st k s) Q = (T, (L0', w', st', q')) ∧ X8_layBook_L44 i a (nI P) p1 fu' V (v4 + W) (nI k + 1) ic (X8_adds ic b W s e) = (T, (ic, b')) ∧ (∀ j, j ≠ 0 → b' j = b j) ∧ BK P L0' w' st' q' (b' 0) f0 := by
          intro s e Q hQ hq
          obtain ⟨r1, r2, r3⟩ := lq_adds (i := ic) (w := W) (s := s) (p := e) hl (by omega)
          have hB' : BK (k + 1) (nI (k + 1)) (upd w k W) (upd st k s) Q (X8_adds ic b W s e 0) f0 := by
            rw [r3]
            refine hB.step (by omega) hq ?_ ?_
            · rcases hQ with ⟨t1, t2, t3⟩ | ⟨t1, t2, t3⟩ <;> subst t1
              · rw [if_pos rfl]; exact t2
              · rw [if_neg (by decide), nI_1]; exact t2
            · rcases hQ with ⟨t1, t2, t3⟩ | ⟨t1, t2, t3⟩ <;> subst t1
              · rw [if_pos rfl]; exact t3
              · rw [if_neg (by decide), nI_1]; exact t3
          obtain ⟨s1, T, L0', w', st', q', b', x1, x2, x3, x4⟩ := ih fu' (k + 1) V (v4 + W) (nI (k + 1)) (upd w k W) (upd st k s) Q (X8_adds ic b W s e) hB' (by omega) (by omega) (by omega)
          refine ⟨lq_lay9 (P := P) (R := True) r1 s1, T, L0', w', st', q', b', ?_, ?_, fun j hj => (x3 j hj).trans (r2 j hj), x4⟩
          · rw [nI_1]; exact x1
          · rw [nI_1]; exact x2
        have eA : ∀ s, X0_addLeaf L0 w st q W s = (nI (k + 1), upd w k W, upd st k s, upd (upd q (2 * k) (nI (2 * k + 1))) (2 * k + 1) (nI (2 * k + 2))) := fun s => lq_addLeaf hB.2.1 (by omega)
        have gn := fun s => go s (-5) (upd (upd (upd (upd q (2 * k) (nI (2 * k + 1))) (2 * k + 1) (nI (2 * k + 2))) (2 * k) (-5)) (2 * k + 1) (-5)) (Or.inl ⟨rfl, by rw [pk_un (by omega), pk_us], pk_us⟩) (fun j hj => by rw [pk_un (by omega), pk_un (by omega), pk_un (by omega), pk_un (by omega)])
        have gp := fun s => go s 1 (upd (upd q (2 * k) (nI (2 * k + 1))) (2 * k + 1) (nI (2 * k + 2))) (Or.inr ⟨rfl, by rw [pk_un (by omega), pk_us], pk_us⟩) (fun j hj => by rw [pk_un (by omega), pk_un (by omega)])
        have nn : ∀ w st q, X0_printNothingOnLast (nI (k + 1)) w st q = upd (upd q (2 * k) (-5)) (2 * k + 1) (-5) := fun w st q => lq_nothing (by omega)
        refine ⟨hS ⟨fun _ => ⟨fun _ => (gn U).1, fun _ => (gp U).1⟩, fun _ => ⟨fun _ => (gn 0).1, fun _ => (gp 0).1⟩⟩, ?_⟩
        rw [eC, eR]
        by_cases c1 : 6 ≤ U
        · rw [if_pos c1, if_pos c1]
          by_cases c2 : ((V / 100) - (V / 100) / 8 * 8) = 0
          · rw [if_pos c2, if_pos c2, eA]; dsimp only; rw [nn]; exact (gn U).2
          · rw [if_neg c2, if_neg c2, eA]; exact (gp U).2
        · rw [if_neg c1, if_neg c1]
          by_cases c2 : ((V / 100) - (V / 100) / 8 * 8) = 0
          · rw [if_pos c2, if_pos c2, eA]; dsimp only; rw [nn]; exact (gn 0).2
          · rw [if_neg c2, if_neg c2, eA]; exact (gp 0).2
/-- the row cleared for a book -/
theorem lq_clear24 : ∀ (fu v : Nat) (b : Nat → Nat → Int32), 12 ≤ v → v ≤ 532 → 532 - v < fu → S_X8_clears_L24 i a fu (nI v) b ∧ (∀ j, j ≠ 0 → X8_clears_L24 i a fu (nI v) b j = b j) ∧ ∀ k, X8_clears_L24 i a fu (nI v) b 0 k = if v ≤ k ∧ k < 532 then 0 else b 0 k := by
  intro fu
  induction fu with
  | zero => intro v b _ _ h; omega
  | succ fu ih =>
    intro v b hv1 hv h
    by_cases c : v = 532
    · subst c
      have g : (532 : Int32) ≤ nI 532 := by decide
      have e : X8_clears_L24 i a (fu + 1) (nI 532) b = b := if_pos g
      rw [e]
      exact ⟨⟨fun _ => trivial, fun n => absurd g n⟩, fun _ _ => rfl, fun k => (if_neg (by omega)).symm⟩
    · have g : ¬ (532 : Int32) ≤ nI v := nI_ge (b := 532) (by omega) (by decide)
      have ec : (nI v).toNatClampNeg = v := nI_clamp (by omega)
      have e : X8_clears_L24 i a (fu + 1) (nI v) b = X8_clears_L24 i a fu (nI (v + 1)) (va_up b 0 (upd (b 0) v 0)) := by
        refine (if_neg g).trans ?_
        rw [ec, nI_1]
      obtain ⟨r1, r2, r3⟩ := ih (v + 1) (va_up b 0 (upd (b 0) v 0)) (by omega) (by omega) (by omega)
      rw [e]
      refine ⟨⟨fun n => absurd n g, fun _ => ⟨vp_in_nI (by omega) (by decide), by rw [ec, nI_1]; exact r1, trivial⟩⟩, fun j hj => (r2 j hj).trans (lq_rown hj), fun k => ?_⟩
      rw [r3, lq_row]
      by_cases q : k = v
      · subst q
        rw [if_neg (by omega), if_pos (by omega)]; exact pk_us
      · rw [pk_un q]
        by_cases q2 : v + 1 ≤ k ∧ k < 532
        · rw [if_pos q2, if_pos (by omega)]
        · rw [if_neg q2, if_neg (by omega)]
theorem lq_clear2 : ∀ (fu v : Nat) (b : Nat → Nat → Int32), v ≤ 8 → 8 - v < fu → S_X8_clears_L2 i a fu (nI v) b ∧ (∀ j, j ≠ 0 → X8_clears_L2 i a fu (nI v) b j = b j) ∧ ∀ k, k < 532 → X8_clears_L2 i a fu (nI v) b 0 k = if (v ≤ k ∧ k < 8) ∨ 12 ≤ k then 0 else b 0 k := by
  intro fu
  induction fu with
  | zero => intro v b _ h; omega
  | succ fu ih =>
    intro v b hv h
    by_cases c : v = 8
    · subst c
      have g : (8 : Int32) ≤ nI 8 := by decide
      have e : X8_clears_L2 i a (fu + 1) (nI 8) b = X8_clears_L24 i a (((532 : Int32).toInt - (12 : Int32).toInt).toNat + 1) (nI 12) b := if_pos g
      obtain ⟨r1, r2, r3⟩ := lq_clear24 (i := i) (a := a) (((532 : Int32).toInt - (12 : Int32).toInt).toNat + 1) 12 b (by omega) (by omega) (by decide)
      rw [e]
      refine ⟨⟨fun _ => ⟨r1, trivial⟩, fun n => absurd g n⟩, r2, fun k hk => ?_⟩
      rw [r3]
      by_cases q : 12 ≤ k
      · rw [if_pos ⟨q, hk⟩, if_pos (Or.inr q)]
      · rw [if_neg (by omega), if_neg (by omega)]
    · have g : ¬ (8 : Int32) ≤ nI v := nI_ge (b := 8) (by omega) (by decide)
      have ec : (nI v).toNatClampNeg = v := nI_clamp (by omega)
      have e : X8_clears_L2 i a (fu + 1) (nI v) b = X8_clears_L2 i a fu (nI (v + 1)) (va_up b 0 (upd (b 0) v 0)) := by
        refine (if_neg g).trans ?_
        rw [ec, nI_1]
      obtain ⟨r1, r2, r3⟩ := ih (v + 1) (va_up b 0 (upd (b 0) v 0)) (by omega) (by omega)
      rw [e]
      refine ⟨⟨fun n => absurd n g, fun _ => ⟨vp_in_nI (by omega) (by decide), by rw [ec, nI_1]; exact r1, trivial⟩⟩, fun j hj => (r2 j hj).trans (lq_rown hj), fun k hk => ?_⟩
      rw [r3 k hk, lq_row]
      by_cases q : k = v
      · subst q
        rw [if_neg (by omega), if_pos (by omega)]; exact pk_us
      · rw [pk_un q]
        by_cases q2 : (v + 1 ≤ k ∧ k < 8) ∨ 12 ≤ k
        · rw [if_pos q2, if_pos (by omega)]
        · rw [if_neg q2, if_neg (by omega)]
theorem lq_clears : S_X8_clears i a ∧ (∀ j, j ≠ 0 → X8_clears i a j = a j) ∧ ∀ k, k < 532 → X8_clears i a 0 k = if k < 8 ∨ 12 ≤ k then 0 else a 0 k := by
  obtain ⟨r1, r2, r3⟩ := lq_clear2 (i := i) (a := a) (((8 : Int32).toInt - (0 : Int32).toInt).toNat + 1) 0 a (by omega) (by decide)
  refine ⟨⟨r1, trivial⟩, r2, fun k hk => (r3 k hk).trans ?_⟩
  by_cases q : k < 8 ∨ 12 ≤ k
  · rw [if_pos q, if_pos (by omega)]
  · rw [if_neg q, if_neg (by omega)]
/-- a book laid: the state against the row -/
theorem lq_bookRS {L0 F0 Z0 L : Nat} {n : Int32} {g w st q f f0 : Nat → Int32} (c : RS L0 F0 Z0 i0 a0 g) (h0 : ∀ k, k < 532 → f0 k = if k < 8 ∨ 12 ≤ k then 0 else g k) (hB : BK L n w st q f f0) :
    RS L 0 0 (upd (X6_clearForBook i0 a0) 0 n) (va_up (va_up (va_up a0 0 w) 1 st) 2 q) f := by
  obtain ⟨b1, b2, b3, b4, b5, b6⟩ := hB
  have lo : ∀ k, 1 ≤ k → k < 8 → f k = 0 := fun k h1 h2 => by rw [b6 k h1 (by omega), h0 k (by omega), if_pos (by omega)]
  have hi : ∀ k, 8 ≤ k → k < 12 → f k = g k := fun k h1 h2 => by rw [b6 k (by omega) (by omega), h0 k (by omega), if_neg (by omega)]
  obtain ⟨q', s, u, o, x1, x2, x3, x4, x5, x6, x7, x8, x9, x10⟩ := c.1.2.2.2.2.2.2.1
  refine ⟨⟨b1, by omega, by omega, b3, lo 1 (by omega) (by omega), lo 2 (by omega) (by omega), ⟨0, s, u, o, by omega, x2, x3, x4, x5, lo 7 (by omega) (by omega), (hi 9 (by omega) (by omega)).trans x7, (hi 8 (by omega) (by omega)).trans x8, (hi 11 (by omega) (by omega)).trans x9, ?_⟩, fun k hk => absurd hk (by omega)⟩, fun k hk => ?_, fun k hk => ?_, fun k hk => ?_, fun k hk => ?_, fun k hk => absurd hk (by omega)⟩
  · rw [hi 10 (by omega) (by omega)]; exact x10
  · by_cases k0 : k = 0
    · subst k0; rw [pk_us, b2, b3]
    · rw [pk_un k0]
      unfold X6_clearForBook
      by_cases k8 : k = 8
      · subst k8
        rw [pk_un (by omega), pk_un (by omega), pk_un (by omega), pk_un (by omega), pk_un (by omega), pk_un (by omega), pk_un (by omega), hi 8 (by omega) (by omega)]
        exact c.i 8 (by omega)
      · rw [lo k (by omega) (by omega)]
        rcases (show k = 1 ∨ k = 2 ∨ k = 3 ∨ k = 4 ∨ k = 5 ∨ k = 6 ∨ k = 7 by omega) with e | e | e | e | e | e | e <;> subst e <;> rfl
  · show a0 7 k = f (9 + k)
    rw [hi (9 + k) (by omega) (by omega)]; exact c.2.2.1 k hk
  · exact b4 k hk
  · exact b5 k hk
theorem lq_rowB {B C : Nat → Nat → Int32} (h : ∀ j, j ≠ 0 → B j = C j) : va_up C 0 (B 0) = B := by
  funext j
  by_cases q : j = 0
  · subst q; exact lq_row 0
  · rw [lq_rown q, h j q]
theorem sim_layBook (h : RW hs z Vh i0 a0 i2 a2 len sg i a) (p0 p1 : Int32) :
    S_X8_layBook i a p0 p1 ∧ (X7_layBook hs z Bh Vh i0 a0 p0 p1).1 = (X8_layBook i a p0 p1).1 ∧ RW hs (X7_layBook hs z Bh Vh i0 a0 p0 p1).2.1 (X7_layBook hs z Bh Vh i0 a0 p0 p1).2.2.2.1 (X7_layBook hs z Bh Vh i0 a0 p0 p1).2.2.2.2.1 (X7_layBook hs z Bh Vh i0 a0 p0 p1).2.2.2.2.2 i2 a2 len sg (X8_layBook i a p0 p1).2.1 (X8_layBook i a p0 p1).2.2 := by
  obtain ⟨b, ⟨L, F, Z, c⟩, d, g⟩ := id h
  obtain ⟨r1, r2, r3, r4⟩ := lq_act h
  unfold X7_layBook X8_layBook S_X8_layBook
  have e1 := lq_inr (p := p0) (lo := 1) (hi := 30) (by omega) (by omega)
  have e2 := lq_inr (p := p1) (lo := 0) (hi := 9999) (by omega) (by omega)
  have e1 : (X8_in p0 1 30 = 0 ∧ (p0 < 1 ∨ (30 : Int32) < p0)) ∨ (X8_in p0 1 30 = 1 ∧ ¬ p0 < 1 ∧ ¬ (30 : Int32) < p0 ∧ ∃ k, 1 ≤ k ∧ k ≤ 30 ∧ p0 = nI k) := e1
  have e2 : (X8_in p1 0 9999 = 0 ∧ (p1 < 0 ∨ (9999 : Int32) < p1)) ∨ (X8_in p1 0 9999 = 1 ∧ ¬ p1 < 0 ∧ ¬ (9999 : Int32) < p1 ∧ ∃ k, 0 ≤ k ∧ k ≤ 9999 ∧ p1 = nI k) := e2
  rcases e1 with ⟨x1, x2⟩ | ⟨x1, x2, x3, P, hP1, hP, hp⟩
  · rw [x1]
    dsimp only
    rw [if_pos (show (0 : Int32) = 0 from rfl)]
    refine ⟨fun r hr => ⟨fun _ => trivial, fun n => absurd hr n⟩, ?_⟩
    by_cases q : p0 < 1
    · rw [if_pos q]; exact ⟨rfl, h⟩
    · rw [if_neg q, if_pos (x2.resolve_left q)]; exact ⟨rfl, h⟩
  · rw [x1, if_neg x2, if_neg x3]
    dsimp only
    rw [if_neg (show ¬ (1 : Int32) = 0 by decide)]
    rcases e2 with ⟨y1, y2⟩ | ⟨y1, y2, y3, -⟩
    · rw [y1, if_pos (show (0 : Int32) = 0 from rfl)]
      refine ⟨fun r hr => ⟨fun _ => trivial, fun _ r hr => ⟨fun _ => trivial, fun n => absurd hr n⟩⟩, ?_⟩
      by_cases q : p1 < 0
      · rw [if_pos q]; exact ⟨rfl, h⟩
      · rw [if_neg q, if_neg (Int32.not_le.mpr (y2.resolve_left q))]; exact ⟨rfl, h⟩
    · rw [y1, if_neg (show ¬ (1 : Int32) = 0 by decide), if_neg y2, if_pos (lt_nlt y3)]
      obtain ⟨s1, s2, s3⟩ := lq_clears (i := (X8_records i a).1) (a := (X8_records i a).2)
      have hB : BK 0 0 (a0 0) (a0 1) (a0 2) (X8_clears (X8_records i a).1 (X8_records i a).2 0) (X8_clears (X8_records i a).1 (X8_records i a).2 0) :=
        ⟨by omega, rfl, by rw [s3 0 (by omega), if_pos (by omega)]; rfl, fun k hk => absurd hk (by omega), fun k hk => absurd hk (by omega), fun _ _ _ => rfl⟩
      subst hp
      have f1 : P - 0 < (((nI P : Int32)).toInt - (0 : Int32).toInt).toNat + 1 := by rw [nI_toInt (by omega), Int32.toInt_zero]; omega
      obtain ⟨t1, T, L0', w', st', q', b', t2, t3, t4, t5⟩ := lq_seedL (i := i) (a := a) (L_ := X6_clearForBook i0 a0 0) (w_ := a0 0) (st_ := a0 1) (q_ := a0 2) (p1 := p1) (ic := (X8_records i a).1) hP (((nI P : Int32).toInt - (0 : Int32).toInt).toNat + 1) (((nI P : Int32).toInt - (0 : Int32).toInt).toNat + 1) 0 p1 0 0 (a0 0) (a0 1) (a0 2) (X8_clears (X8_records i a).1 (X8_records i a).2) hB (by omega) f1 f1
      have t3' : X8_layBook_L44 i a (nI P) p1 (((nI P : Int32).toInt - (0 : Int32).toInt).toNat + 1) p1 0 0 (X8_records i a).1 (X8_clears (X8_records i a).1 (X8_records i a).2) = (T, ((X8_records i a).1, b')) := t3
      have t2' : X0_layBySeed (X6_clearForBook i0 a0 0) (a0 0) (a0 1) (a0 2) (nI P) p1 = (T, (L0', w', st', q')) := t2
      rw [t3', t2']
      refine ⟨fun r hr => ⟨fun n => absurd (hr.symm.trans n) (by decide), fun _ r hr => ⟨fun n => absurd (hr.symm.trans n) (by decide), fun _ => ⟨r1, fun x hx => ?_⟩⟩⟩, rfl, ?_⟩
      · subst hx
        exact ⟨s1, fun x hx => by subst hx; exact ⟨t1, trivial⟩⟩
      · have hr := lq_bookRS c (fun k hk => by rw [s3 k hk, r2 0 (by decide)]) t5
        have hw := r4 ⟨P, 0, 0, hr⟩
        rw [lq_rowB (B := b') (fun j hj => (t4 j hj).trans (s2 j hj))] at hw
        exact hw
end LAYB
