set_option maxRecDepth 100000
section TAKEC
variable {hs z : Int32} {Bh : Nat → Nat → Nat} {Vh : Nat → lt_SV} {i0 : Nat → Int32} {a0 : Nat → Nat → Int32} {i1 : Nat → Int32} {a1 : Nat → Nat → Int32} {i2 : Nat → Int32} {a2 : Nat → Nat → Int32} {len : Int32} {sg : Nat → Int32} {i : Nat → Int32} {a : Nat → Nat → Int32}
theorem lq_m5 (k : Nat) (hk : k < 1000) : ¬ nI k = (-5 : Int32) := by
  intro z
  have := congrArg Int32.toInt z
  rw [nI_toInt (by omega)] at this
  have h5 : (-5 : Int32).toInt = -5 := by decide
  omega
/-- the leaves told so far, on both sides -/
def TB (n : Nat) (w st q R : Nat → Int32) : Prop := ∀ k, k < n → w k = R (3 * k) ∧ st k = R (3 * k + 1) ∧ q (2 * k) = (if R (3 * k + 2) = (-5) then (-5) else nI (2 * k) + R (3 * k + 2)) ∧ q (2 * k + 1) = (if R (3 * k + 2) = (-5) then (-5) else nI (2 * k + 1) + R (3 * k + 2))
theorem TB.step {n : Nat} {w st q Q R R' : Nat → Int32} {wv sv mk : Int32} (h : TB n w st q R) (hq : QP n mk q Q) (hR : ∀ k, k < 3 * n → R' k = R k) (h1 : R' (3 * n) = wv) (h2 : R' (3 * n + 1) = sv) (h3 : R' (3 * n + 2) = mk) : TB (n + 1) (upd w n wv) (upd st n sv) Q R' := by
  intro k hk
  by_cases c : k = n
  · subst c
    rw [h1, h2, h3]
    exact ⟨pk_us, pk_us, hq.2.1, hq.2.2⟩
  · obtain ⟨x1, x2, x3, x4⟩ := h k (by omega)
    rw [hR (3 * k) (by omega), hR (3 * k + 1) (by omega), hR (3 * k + 2) (by omega), hq.1 (2 * k) (by omega), hq.1 (2 * k + 1) (by omega), pk_un c, pk_un c]
    exact ⟨x1, x2, x3, x4⟩
theorem lq_f0 {fu m t : Nat} {ia j : Nat → Int32} {aa b : Nat → Nat → Int32} (h3 : j 3 = nI m) (h2 : j 2 = nI t) : X8_fault_L12 ia aa (fu + 1) 0 j b = ((if nI m = nI t then (-5) else nI m), (j, b)) ∧ S_X8_fault_L12 ia aa (fu + 1) 0 j b := by
  refine ⟨?_, fun _ => ⟨fun _ => trivial, fun _ => trivial⟩, fun n => absurd rfl n⟩
  refine (if_pos rfl).trans ?_
  rw [h3, h2]
  by_cases c : nI m = nI t
  · rw [if_pos c, if_pos c]
  · rw [if_neg c, if_neg c]
/-- the text read, on both sides -/
theorem lq_parse {t : Nat} {ia : Nat → Int32} {aa : Nat → Nat → Int32} {L_ : Int32} {w_ st_ q_ : Nat → Int32} : ∀ (fu fu' n s : Nat) (j : Nat → Int32) (b : Nat → Nat → Int32) (w st q : Nat → Int32), TX t s sg j b → j 4 = nI n → n < 30 → TB n w st q (b 7) → 30 - n < fu → 31 - n < fu' →
    S_X8_fault_L12 ia aa fu' 1 j b ∧ ∃ (T : Int32) (j' : Nat → Int32) (b' : Nat → Nat → Int32) (L' : Int32) (w' st' q' : Nat → Int32), X1_readInto_L9 (nI t) sg L_ w_ st_ q_ fu (nI s) (nI n) (nI n) w st q = (T, (L', w', st', q')) ∧ X8_fault_L12 ia aa fu' 1 j b = (T, (j', b')) ∧ (∀ k, k ≠ 3 → k ≠ 4 → j' k = j k) ∧ (∀ r, r ≠ 7 → b' r = b r) ∧ (T = (-5) → ∃ N : Nat, N ≤ 30 ∧ j' 4 = nI N ∧ L' = nI N ∧ TB N w' st' q' (b' 7)) := by
  intro fu
  induction fu with
  | zero => intro fu' n s j b w st q _ _ _ _ h; omega
  | succ fu ih =>
    intro fu' n s j b w st q h h4 hn hT h1 h2
    cases fu' with
    | zero => omega
    | succ fu' =>
      obtain ⟨sl, j1, b1, hk, hr, alt⟩ := lq_leaf h h4 hn
      have ht := h.1
      have g1 : ¬ (1 : Int32) = 0 := by decide
      rcases alt with ⟨x1, v, hv, x2, x3⟩ | ⟨m, wv, sv, mk, hm1, hm2, x2, x1, x3, x4, x5, x6, x7⟩
      · have eR : X8_fault_L12 ia aa (fu' + 1) 1 j b = (nI v, (j1, b1)) := by
          refine (if_neg g1).trans ?_
          rw [x1]
          dsimp only
          rw [if_pos (show (0 : Int32) = 0 from rfl), x2]
        refine ⟨⟨fun n => absurd n g1, fun _ => ⟨sl, fun x hx => ⟨fun _ => trivial, fun q => absurd (by rw [hx, x1]) q⟩⟩⟩, nI v, j1, b1, nI n, w, st, q, x3 L_ w_ st_ q_ fu w st q, eR, fun k h3 _ => hk k h3, hr, fun e => absurd e (lq_m5 v hv)⟩
      · obtain ⟨Q, hQ, eC⟩ := x7 L_ w_ st_ q_ fu w st q
        have j14 : j1 4 = nI n := (hk 4 (by decide)).trans h4
        have j12 : j1 2 = nI t := (hk 2 (by decide)).trans h.2.2.1
        have hT1 := hT.step hQ x3 x4 x5 x6
        rw [eC]
        unfold lq_next
        generalize hj2 : upd j1 4 (nI (n + 1)) = j2
        have j24 : j2 4 = nI (n + 1) := by rw [← hj2]; exact pk_us
        have j2k : ∀ k, k ≠ 4 → j2 k = j1 k := fun k q => by rw [← hj2]; exact pk_un q
        have eR : X8_fault_L12 ia aa (fu' + 1) 1 j b = (if (30 : Int32) ≤ nI (n + 1) then X8_fault_L12 ia aa fu' 0 j2 b1 else (if (X8_takesSign j2 b1 44).1 = 0 then X8_fault_L12 ia aa fu' 0 (X8_takesSign j2 b1 44).2 b1 else X8_fault_L12 ia aa fu' 1 (X8_takesSign j2 b1 44).2 b1)) := by
          refine (if_neg g1).trans ?_
          rw [x1]
          refine (if_neg g1).trans ?_
          by_cases c30 : (30 : Int32) ≤ nI (n + 1)
          · have c' : (30 : Int32) ≤ j1 4 + 1 := by rw [j14, nI_1 n]; exact c30
            rw [if_pos c30]
            refine (if_pos c').trans ?_
            show X8_fault_L12 ia aa fu' 0 (upd j1 4 (j1 4 + 1)) b1 = _
            rw [j14, nI_1 n, hj2]
          · have c' : ¬ (30 : Int32) ≤ j1 4 + 1 := by rw [j14, nI_1 n]; exact c30
            rw [if_neg c30]
            refine (if_neg c').trans ?_
            show (if (X8_takesSign (upd j1 4 (j1 4 + 1)) b1 44).1 = 0 then X8_fault_L12 ia aa fu' 0 (X8_takesSign (upd j1 4 (j1 4 + 1)) b1 44).2 b1 else X8_fault_L12 ia aa fu' 1 (X8_takesSign (upd j1 4 (j1 4 + 1)) b1 44).2 b1) = _
            rw [j14, nI_1 n, hj2]
        have eS : ((30 : Int32) ≤ nI (n + 1) → S_X8_fault_L12 ia aa fu' 0 j2 b1) → (¬ (30 : Int32) ≤ nI (n + 1) → S_X8_takesSign j2 b1 44 ∧ ((X8_takesSign j2 b1 44).1 = 0 → S_X8_fault_L12 ia aa fu' 0 (X8_takesSign j2 b1 44).2 b1) ∧ (¬ (X8_takesSign j2 b1 44).1 = 0 → S_X8_fault_L12 ia aa fu' 1 (X8_takesSign j2 b1 44).2 b1)) → S_X8_fault_L12 ia aa (fu' + 1) 1 j b := by
          intro y1 y2
          refine ⟨fun n => absurd n g1, fun _ => ⟨sl, fun x hx => ?_⟩⟩
          rw [x1] at hx
          subst hx
          refine ⟨fun q => absurd q g1, fun _ => ?_⟩
          dsimp only
          rw [j14, nI_1 n, hj2]
          refine ⟨fun q => ⟨y1 q, trivial⟩, fun q => ?_⟩
          obtain ⟨y3, y4, y5⟩ := y2 q
          exact ⟨y3, fun x hx => ⟨fun q => ⟨by rw [hx]; exact y4 (by rw [← hx]; exact q), trivial⟩, fun q => ⟨by rw [hx]; exact y5 (by rw [← hx]; exact q), trivial⟩⟩⟩
        have hfin : ∀ (j3 : Nat → Int32), j3 3 = nI m → (∀ k, k ≠ 3 → j3 k = j2 k) → ∀ fq, S_X8_fault_L12 ia aa (fq + 1) 0 j3 b1 ∧ X8_fault_L12 ia aa (fq + 1) 0 j3 b1 = ((if nI m = nI t then (-5) else nI m), (j3, b1)) ∧ (∀ k, k ≠ 3 → k ≠ 4 → j3 k = j k) ∧ j3 4 = nI (n + 1) := by
          intro j3 e3 ek fq
          obtain ⟨p1, p2⟩ := lq_f0 (ia := ia) (aa := aa) (fu := fq) (b := b1) e3 ((ek 2 (by decide)).trans ((j2k 2 (by decide)).trans j12))
          exact ⟨p2, p1, fun k k3 k4 => (ek k k3).trans ((j2k k k4).trans (hk k k3)), (ek 4 (by decide)).trans j24⟩
        obtain ⟨fq, rfl⟩ : ∃ fq, fu' = fq + 1 := ⟨fu' - 1, by omega⟩
        have done : ∀ (j3 : Nat → Int32), j3 3 = nI m → (∀ k, k ≠ 3 → j3 k = j2 k) → ∀ X : Int32 × (Int32 × (Nat → Int32) × (Nat → Int32) × (Nat → Int32)), X = (if nI m = nI t then ((-5), (nI (n + 1), upd w n wv, upd st n sv, Q)) else (nI m, (nI (n + 1), upd w n wv, upd st n sv, Q))) →
            ∃ (T : Int32) (j' : Nat → Int32) (b' : Nat → Nat → Int32) (L' : Int32) (w' st' q' : Nat → Int32), X = (T, (L', w', st', q')) ∧ X8_fault_L12 ia aa (fq + 1) 0 j3 b1 = (T, (j', b')) ∧ (∀ k, k ≠ 3 → k ≠ 4 → j' k = j k) ∧ (∀ r, r ≠ 7 → b' r = b r) ∧ (T = (-5) → ∃ N : Nat, N ≤ 30 ∧ j' 4 = nI N ∧ L' = nI N ∧ TB N w' st' q' (b' 7)) := by
          intro j3 e3 ek X hX
          obtain ⟨p1, p2, p3, p4⟩ := hfin j3 e3 ek fq
          refine ⟨(if nI m = nI t then (-5) else nI m), j3, b1, nI (n + 1), upd w n wv, upd st n sv, Q, ?_, p2, p3, hr, fun _ => ⟨n + 1, by omega, p4, rfl, hT1⟩⟩
          rw [hX]
          by_cases c : nI m = nI t
          · rw [if_pos c, if_pos c]
          · rw [if_neg c, if_neg c]
        have j23 : j2 3 = nI m := (j2k 3 (by decide)).trans x2
        by_cases c29 : n = 29
        · have g30 : (30 : Int32) ≤ nI (n + 1) := nI_le (a := 30) (by omega) (by omega)
          have g29 : nI n = 29 := by rw [c29]; rfl
          obtain ⟨p1, p2, p3, p4⟩ := hfin j2 j23 (fun _ _ => rfl) fq
          refine ⟨eS (fun _ => p1) (fun q => absurd g30 q), ?_⟩
          rw [eR, if_pos g30]
          refine done j2 j23 (fun _ _ => rfl) _ ?_
          rw [if_pos g29]
          by_cases c : nI m = nI t
          · simp only [if_pos c]
          · by_cases c44 : X1_is (nI t) sg (nI m) 44 = 0
            · simp only [if_neg c, if_pos c44]
            · simp only [if_neg c, if_neg c44]
        · have g30 : ¬ (30 : Int32) ≤ nI (n + 1) := nI_ge (b := 30) (by omega) (by decide)
          have g29 : ¬ nI n = 29 := fun q => c29 ((nI_eq (a := n) (b := 29) (by omega) (by decide)).mp q)
          have hX : TX t m sg j2 b1 := ⟨ht, hm2, (j2k 2 (by decide)).trans j12, j23, fun k hk => by rw [hr 4 (by decide)]; exact h.2.2.2.2 k hk⟩
          obtain ⟨ss, r, hr1, f1, f2⟩ := lq_sign hX 44
          rw [eR, if_neg g30, f1, f2]
          dsimp only
          rcases hr1 with hr1 | ⟨hr1, hmt⟩
          · subst hr1
            rw [if_pos (show nI 0 = 0 from nI_0)]
            obtain ⟨p1, p2, p3, p4⟩ := hfin (upd j2 3 (nI (m + 0))) pk_us (fun k hk => pk_un hk) fq
            refine ⟨eS (fun q => absurd q g30) (fun _ => ⟨ss, fun _ => by rw [f2]; exact p1, fun q => absurd (by rw [f2]; exact nI_0) q⟩), ?_⟩
            refine done (upd j2 3 (nI (m + 0))) pk_us (fun k hk => pk_un hk) _ ?_
            by_cases c : nI m = nI t
            · simp only [if_pos c]
            · simp only [if_neg c, if_pos (show nI 0 = 0 from nI_0)]
          · subst hr1
            have gm : ¬ nI m = nI t := fun q => by have := (nI_eq (a := m) (b := t) (by omega) (by omega)).mp q; omega
            rw [if_neg (show ¬ nI 1 = 0 by decide), if_neg gm, if_neg (show ¬ nI 1 = 0 by decide), if_neg g29]
            have hX2 : TX t (m + 1) sg (upd j2 3 (nI (m + 1))) b1 := ⟨ht, hmt, (pk_un (by decide)).trans hX.2.2.1, pk_us, hX.2.2.2.2⟩
            obtain ⟨u1, T, j', b', L', w', st', q', u2, u3, u4, u5, u6⟩ := ih (fq + 1) (n + 1) (m + 1) (upd j2 3 (nI (m + 1))) b1 (upd w n wv) (upd st n sv) Q hX2 ((pk_un (by decide)).trans j24) (by omega) hT1 (by omega) (by omega)
            refine ⟨eS (fun q => absurd q g30) (fun _ => ⟨ss, fun q => absurd (show nI 1 = 0 by rw [f2] at q; exact q) (by decide), fun _ => by rw [f2]; exact u1⟩), T, j', b', L', w', st', q', u2, u3, fun k k3 k4 => (u4 k k3 k4).trans ((pk_un k3).trans ((j2k k k4).trans (hk k k3))), fun r hr7 => (u5 r hr7).trans (hr r hr7), u6⟩
/-- the leaves told become the book -/
theorem lq_tbL {N : Nat} {ia ic : Nat → Int32} {aa : Nat → Nat → Int32} {w st q R f0 : Nat → Int32} (hN : N ≤ 30) (hT : TB N w st q R) (h4 : ic 4 = nI N) : ∀ (fu k : Nat) (b : Nat → Nat → Int32), BK k (nI k) w st q (b 0) f0 → b 7 = R → k ≤ N → N - k < fu →
    S_X8_takeBook_L30 ia aa fu (nI k) ic b ∧ ∃ b', X8_takeBook_L30 ia aa fu (nI k) ic b = (nI N, (ic, b')) ∧ (∀ j, j ≠ 0 → b' j = b j) ∧ BK N (nI N) w st q (b' 0) f0 := by
  intro fu
  induction fu with
  | zero => intro k b _ _ _ h; omega
  | succ fu ih =>
    intro k b hB h7 hk h
    by_cases c : k = N
    · subst c
      have g : (ic 4) ≤ nI k := by rw [h4]; exact nI_le (Nat.le_refl _) (by omega)
      exact ⟨⟨fun _ => trivial, fun n => absurd g n⟩, b, (if_pos g).trans (by rw [h4]), fun _ _ => rfl, hB⟩
    · have g : ¬ (ic 4) ≤ nI k := by rw [h4]; exact nI_ge (by omega) (by omega)
      have e0 : (3 : Int32) * nI k = nI (3 * k) := by rw [show (3 : Int32) = nI 3 from rfl, pk_mul]
      have e1 : nI (3 * k) + 1 = nI (3 * k + 1) := nI_1 _
      have e2 : nI (3 * k) + 2 = nI (3 * k + 2) := nI_add _ 2
      have d0 : (nI (3 * k)).toNatClampNeg = 3 * k := nI_clamp (by omega)
      have d1 : (nI (3 * k + 1)).toNatClampNeg = 3 * k + 1 := nI_clamp (by omega)
      have d2 : (nI (3 * k + 2)).toNatClampNeg = 3 * k + 2 := nI_clamp (by omega)
      have v0 : vp_in (nI (3 * k)) 93 := vp_in_nI (by omega) (by decide)
      have v1 : vp_in (nI (3 * k + 1)) 93 := vp_in_nI (by omega) (by decide)
      have v2 : vp_in (nI (3 * k + 2)) 93 := vp_in_nI (by omega) (by decide)
      obtain ⟨t1, t2, t3, t4⟩ := hT k (by omega)
      obtain ⟨r1, r2, r3⟩ := lq_adds (i := ic) (w := R (3 * k)) (s := R (3 * k + 1)) (p := R (3 * k + 2)) hB.2.2.1 (by omega)
      have hB' := hB.step (by omega) (q' := q) (wv := R (3 * k)) (sv := R (3 * k + 1)) (fun _ _ => rfl) t3 t4
      rw [← r3, ← t1, ← t2, lq_upd, lq_upd, t1, t2] at hB'
      obtain ⟨s1, b', s2, s3, s4⟩ := ih (k + 1) (X8_adds ic b (R (3 * k)) (R (3 * k + 1)) (R (3 * k + 2))) hB' ((r2 7 (by decide)).trans h7) (by omega) (by omega)
      refine ⟨⟨fun n => absurd n g, fun _ => ?_⟩, b', ?_, fun j hj => (s3 j hj).trans (r2 j hj), s4⟩
      · rw [e0, e1, e2, d0, d1, d2, h7]
        exact ⟨v0, v1, v2, r1, fun x hx => ⟨by rw [hx, nI_1]; exact s1, trivial⟩⟩
      · refine (if_neg g).trans ?_
        rw [e0, e1, e2, d0, d1, d2, h7, nI_1]; exact s2
theorem sim_takeBook (h : RW hs z Vh i0 a0 i2 a2 len sg i a) :
    S_X8_takeBook i a ∧ (X7_takeBook hs z Bh Vh i0 a0 i1 a1 len sg).1 = (X8_takeBook i a).1 ∧ RW hs (X7_takeBook hs z Bh Vh i0 a0 i1 a1 len sg).2.1 (X7_takeBook hs z Bh Vh i0 a0 i1 a1 len sg).2.2.2.1 (X7_takeBook hs z Bh Vh i0 a0 i1 a1 len sg).2.2.2.2.1 (X7_takeBook hs z Bh Vh i0 a0 i1 a1 len sg).2.2.2.2.2.1 i2 a2 len sg (X8_takeBook i a).2.1 (X8_takeBook i a).2.2 := by
  obtain ⟨b, ⟨L, F, Z, c⟩, d, t, g1, g2, g3, g4⟩ := id h
  subst g2
  have hX : TX t 0 sg (upd (upd i 3 0) 4 0) a := ⟨g1, by omega, (pk_un (by decide)).trans ((pk_un (by decide)).trans g3), (pk_un (by decide)).trans pk_us, g4⟩
  obtain ⟨p1, T, j', b', L', w', st', q', p2, p3, p4, p5, p6⟩ := lq_parse (ia := i) (aa := a) (L_ := i1 0) (w_ := a1 0) (st_ := a1 1) (q_ := a1 2) (((30 : Int32).toInt - (0 : Int32).toInt).toNat + 1) (((31 : Int32).toInt - (0 : Int32).toInt).toNat + 1) 0 0 (upd (upd i 3 0) 4 0) a (a1 0) (a1 1) (a1 2) hX pk_us (by omega) (fun k hk => absurd hk (by omega)) (by decide) (by decide)
  have e1 : X1_readInto (nI t) sg (i1 0) (a1 0) (a1 1) (a1 2) = (T, (L', w', st', q')) := p2
  have e2 : X8_fault i a = (T, (j', b')) := by
    unfold X8_fault
    rw [pk_us]; exact p3
  have e3 : S_X8_fault i a := by
    unfold S_X8_fault
    rw [pk_us]; exact ⟨p1, trivial⟩
  have hw : RW hs z Vh i0 a0 i2 a2 (nI t) sg j' b' := h.to
    ((p4 0 (by decide) (by decide)).trans ((pk_un (by decide)).trans (pk_un (by decide)))) ((p4 1 (by decide) (by decide)).trans ((pk_un (by decide)).trans (pk_un (by decide)))) ((p4 2 (by decide) (by decide)).trans ((pk_un (by decide)).trans (pk_un (by decide))))
    (p5 0 (by decide)) (p5 2 (by decide)) (p5 3 (by decide)) (p5 4 (by decide))
  obtain ⟨r1, r2, r3, r4⟩ := lq_act hw
  unfold X7_takeBook X8_takeBook S_X8_takeBook
  rw [e1, e2]
  dsimp only
  by_cases cT : T = (-5)
  · obtain ⟨N, hN, n1, n2, n3⟩ := p6 cT
    obtain ⟨s1, s2, s3⟩ := lq_clears (i := (X8_records j' b').1) (a := (X8_records j' b').2)
    have hB : BK 0 (nI 0) w' st' q' (X8_clears (X8_records j' b').1 (X8_records j' b').2 0) (X8_clears (X8_records j' b').1 (X8_records j' b').2 0) :=
      ⟨by omega, rfl, by rw [s3 0 (by omega), if_pos (by omega)]; rfl, fun k hk => absurd hk (by omega), fun k hk => absurd hk (by omega), fun _ _ _ => rfl⟩
    have h4 : (X8_records j' b').1 4 = nI N := (r3 4 (by decide)).trans n1
    have f1 : N - 0 < (((nI N : Int32)).toInt - (0 : Int32).toInt).toNat + 1 := by rw [nI_toInt (by omega), Int32.toInt_zero]; omega
    obtain ⟨t1, B, t2, t3, t4⟩ := lq_tbL (ia := i) (aa := a) (ic := (X8_records j' b').1) hN n3 h4 (((nI N : Int32).toInt - (0 : Int32).toInt).toNat + 1) 0 (X8_clears (X8_records j' b').1 (X8_records j' b').2) hB ((s2 7 (by decide)).trans (r2 7 (by decide))) (by omega) f1
    have t2' : X8_takeBook_L30 i a (((nI N : Int32).toInt - (0 : Int32).toInt).toNat + 1) 0 (X8_records j' b').1 (X8_clears (X8_records j' b').1 (X8_records j' b').2) = (nI N, ((X8_records j' b').1, B)) := t2
    rw [if_pos cT, if_pos cT, h4, t2', n2]
    refine ⟨⟨e3, fun x hx => ?_⟩, rfl, ?_⟩
    · subst hx
      exact ⟨fun _ => ⟨r1, fun x hx => by subst hx; exact ⟨s1, fun x hx => by subst hx; exact ⟨by rw [h4]; exact t1, trivial⟩⟩⟩, fun q => absurd cT q⟩
    · have hr := lq_bookRS c (fun k hk => by rw [s3 k hk, r2 0 (by decide), p5 0 (by decide)]) t4
      have hw2 := r4 ⟨N, 0, 0, hr⟩
      rw [lq_rowB (B := B) (fun j hj => (t3 j hj).trans (s2 j hj))] at hw2
      exact hw2
  · rw [if_neg cT, if_neg cT]
    refine ⟨⟨e3, fun x hx => ?_⟩, rfl, hw⟩
    subst hx
    exact ⟨fun q => absurd q cT, fun _ => trivial⟩
end TAKEC
