set_option maxRecDepth 100000
section SCAN
variable {hs z : Int32} {Bh : Nat → Nat → Nat} {Vh : Nat → lt_SV} {i0 : Nat → Int32} {a0 : Nat → Nat → Int32} {i1 : Nat → Int32} {a1 : Nat → Nat → Int32} {i2 : Nat → Int32} {a2 : Nat → Nat → Int32} {len : Int32} {sg : Nat → Int32} {i : Nat → Int32} {a : Nat → Nat → Int32}
/-- how the two ends of a scan stand to each other -/
def SE (hs z : Int32) (Vh : Nat → lt_SV) (i0 : Nat → Int32) (a0 : Nat → Nat → Int32) (i2 : Nat → Int32) (a2 : Nat → Nat → Int32) (len : Int32) (sg : Nat → Int32) (cl rf : Int32 × ((Nat → Int32) × (Nat → Nat → Int32))) : Prop :=
  (cl.1 = (-3) ∧ rf.1 = (-3) ∧ RW hs z Vh i0 a0 i2 a2 len sg rf.2.1 rf.2.2) ∨ (¬ cl.1 = (-3) ∧ rf.1 = cl.1 ∧ RW hs (X2_recz z) (X2_recV z Vh i0 a0) cl.2.1 cl.2.2 i2 a2 len sg rf.2.1 rf.2.2)
theorem lq_m3 (k : Nat) (hk : k < 1000) : ¬ nI k = (-3 : Int32) := by
  intro z
  have := congrArg Int32.toInt z
  rw [nI_toInt (by omega)] at this
  have h5 : (-3 : Int32).toInt = -3 := by decide
  omega
def exC (ic : Nat → Int32) (ac : Nat → Nat → Int32) (v2 : Int32) : Int32 × ((Nat → Int32) × (Nat → Nat → Int32)) := if X6_leavesOnRight ic ac ≤ 0 then (if X6_hasRoomForPair ic ac = 0 then ((-3), (ic, ac)) else (v2 + (X6_takePair ic ac).1, ((X6_takePair ic ac).2.1, (X6_takePair ic ac).2.2))) else (v2, (ic, ac))
def exR (i : Nat → Int32) (v2 v3 : Int32) (b : Nat → Nat → Int32) : Int32 × ((Nat → Int32) × (Nat → Nat → Int32)) := if b 1 1 = b 1 0 then (if v3 < 0 then (if (b 0 2 + (v2 + 0)) ≤ 80 then (v2 + 0, ((X8_records i b).1, va_up (X8_records i b).2 0 (X8_lays 532 532 ((X8_records i b).2 1) ((X8_records i b).2 0) 0 0))) else ((-3 : Int32), (i, b))) else (if (b 0 2 + (v2 + (X8_shots (b 1)).1)) ≤ 80 then (v2 + (X8_shots (b 1)).1, ((X8_records i (va_up b 1 (X8_shots (b 1)).2)).1, va_up (X8_records i (va_up b 1 (X8_shots (b 1)).2)).2 0 (X8_lays 532 532 ((X8_records i (va_up b 1 (X8_shots (b 1)).2)).2 1) ((X8_records i (va_up b 1 (X8_shots (b 1)).2)).2 0) 0 0))) else ((-3 : Int32), (i, va_up b 1 (X8_shots (b 1)).2)))) else (if (b 0 2 + (v2 + 0)) ≤ 80 then (v2 + 0, ((X8_records i b).1, va_up (X8_records i b).2 0 (X8_lays 532 532 ((X8_records i b).2 1) ((X8_records i b).2 0) 0 0))) else ((-3 : Int32), (i, b)))
def exS (i : Nat → Int32) (v2 v3 : Int32) (b : Nat → Nat → Int32) : Prop := (b 1 1 = b 1 0 → (v3 < 0 → ((b 0 2 + (v2 + 0)) ≤ 80 → S_X8_records i b ∧ ∀ x_146, x_146 = X8_records i b → S_X8_lays 532 532 (x_146.2 1) (x_146.2 0) 0 0 ∧ ∀ x_159, x_159 = X8_lays 532 532 (x_146.2 1) (x_146.2 0) 0 0 → True) ∧ (¬ (b 0 2 + (v2 + 0)) ≤ 80 → True)) ∧ (¬ v3 < 0 → S_X8_shots (b 1) ∧ ∀ x_116, x_116 = X8_shots (b 1) → ((b 0 2 + (v2 + x_116.1)) ≤ 80 → S_X8_records i (va_up b 1 x_116.2) ∧ ∀ x_146, x_146 = X8_records i (va_up b 1 x_116.2) → S_X8_lays 532 532 (x_146.2 1) (x_146.2 0) 0 0 ∧ ∀ x_159, x_159 = X8_lays 532 532 (x_146.2 1) (x_146.2 0) 0 0 → True) ∧ (¬ (b 0 2 + (v2 + x_116.1)) ≤ 80 → True))) ∧ (¬ b 1 1 = b 1 0 → ((b 0 2 + (v2 + 0)) ≤ 80 → S_X8_records i b ∧ ∀ x_146, x_146 = X8_records i b → S_X8_lays 532 532 (x_146.2 1) (x_146.2 0) 0 0 ∧ ∀ x_159, x_159 = X8_lays 532 532 (x_146.2 1) (x_146.2 0) 0 0 → True) ∧ (¬ (b 0 2 + (v2 + 0)) ≤ 80 → True))
theorem lq_exit {L F Z0 N T : Nat} {ic : Nat → Int32} {ac : Nat → Nat → Int32} {b : Nat → Nat → Int32} (h : RW hs z Vh i0 a0 i2 a2 len sg i b) (hL0 : 0 < L) (hz : b 0 2 = nI Z0) (hZ : Z0 + N ≤ 80) (c : RS L F (Z0 + N) ic ac (b 1)) (hT : T < 100000) :
    exS i (nI N) (nI T) b ∧ SE hs z Vh i0 a0 i2 a2 len sg (exC ic ac (nI N)) (exR i (nI N) (nI T) b) := by
  have hL := c.1.1
  have hFL := c.1.2.1
  have nn := lq_n2 L F
  obtain ⟨w1, w2, w3⟩ := lq_shotsW c.1 hL0
  have t0 : ¬ nI T < 0 := nI_pos (by omega)
  obtain ⟨r1, r2, r3, r4⟩ := lq_act h
  obtain ⟨q1, q2, q3, q4⟩ := lq_act (h.a1 (X8_shots (b 1)).2)
  have e0 : X6_leavesOnRight ic ac = nI (L - F) := lq_onR c.f c.l hFL
  have n0 : nI N + 0 = nI N := by rw [Int32.add_zero]
  have le0 : (b 0 2 + (nI N + 0)) ≤ 80 := by rw [n0, hz, nI_add]; exact nI_le (b := 80) hZ (by decide)
  refine ⟨⟨fun _ => ⟨fun q => absurd q t0, fun _ => ⟨w1, fun x hx => ⟨fun _ => ⟨by rw [hx]; exact q1, fun _ _ => ⟨lq_laysS _ _, fun _ _ => trivial⟩⟩, fun _ => trivial⟩⟩⟩, fun _ => ⟨fun _ => ⟨r1, fun _ _ => ⟨lq_laysS _ _, fun _ _ => trivial⟩⟩, fun _ => trivial⟩⟩, ?_⟩
  unfold exC exR SE
  by_cases cF : F = L
  · have g1 : X6_leavesOnRight ic ac ≤ 0 := by rw [e0, cF, Nat.sub_self]; decide
    have g2 : b 1 1 = b 1 0 := by rw [c.1.f, c.1.l, cF]
    rw [if_pos g1, if_pos g2, if_neg t0, w2]
    rcases lq_room c with ⟨y1, y2⟩ | ⟨y1, y2⟩
    · obtain ⟨p1, p2⟩ := lq_pair c hL0 y1
      have le1 : (b 0 2 + (nI N + nI (lq_n L F))) ≤ 80 := by rw [hz, nI_add, nI_add]; exact nI_le (b := 80) (by omega) (by decide)
      rw [y2, if_neg (show ¬ (1 : Int32) = 0 by decide), if_pos le1, p1, nI_add]
      right
      refine ⟨lq_m3 _ (by omega), rfl, q4 ⟨L, F, _, p2.congr (fun k hk => ?_)⟩⟩
      rw [lq_lays0 hk, q2 1 (by decide), lq_row]
    · have le1 : ¬ (b 0 2 + (nI N + nI (lq_n L F))) ≤ 80 := by rw [hz, nI_add, nI_add]; exact nI_ge (a := 80) (by omega) (by omega)
      rw [y2, if_pos (show (0 : Int32) = 0 from rfl), if_neg le1]
      left
      exact ⟨rfl, rfl, h.a1 _⟩
  · have g1 : ¬ X6_leavesOnRight ic ac ≤ 0 := by rw [e0]; exact nI_nle (by omega) (by omega)
    have g2 : ¬ b 1 1 = b 1 0 := by rw [c.1.f, c.1.l]; intro q; exact cF ((nI_eq (by omega) (by omega)).mp q)
    rw [if_neg g1, if_neg g2, if_pos le0, n0]
    right
    refine ⟨lq_m3 _ (by omega), rfl, r4 ⟨L, F, _, c.congr (fun k hk => ?_)⟩⟩
    rw [lq_lays0 hk, r2 1 (by decide)]
theorem lq_scanA {p0 : Int32} {L Z0 : Nat} (hL0 : 0 < L) (hZ0 : Z0 ≤ 80) (hp : p0 = nI (p0.toNatClampNeg)) (hp60 : p0.toNatClampNeg ≤ 60) : ∀ (fu fu' k N T F : Nat) (ic : Nat → Int32) (ac : Nat → Nat → Int32) (b : Nat → Nat → Int32), RW hs z Vh i0 a0 i2 a2 len sg i b → b 0 2 = nI Z0 → Z0 + N ≤ 80 → RS L F (Z0 + N) ic ac (b 1) → N ≤ 2 * k → T ≤ 30 * k → k ≤ p0.toNatClampNeg → p0.toNatClampNeg - k < fu → p0.toNatClampNeg - k < fu' →
    S_X8_scan_L45 i a p0 fu' (nI N) (nI T) (nI k) b ∧ SE hs z Vh i0 a0 i2 a2 len sg (X6_takeAndTurn_L4 i0 a0 p0 fu (nI N) (nI k) ic ac) (X8_scan_L45 i a p0 fu' (nI N) (nI T) (nI k) b) := by
  intro fu
  induction fu with
  | zero => intro fu' k N T F ic ac b _ _ _ _ _ _ _ h; omega
  | succ fu ih =>
    intro fu' k N T F ic ac b h hz hZ c hNk hT hk h1 h2
    cases fu' with
    | zero => omega
    | succ fu' =>
      have hL := c.1.1
      have hFL := c.1.2.1
      have nn := lq_n2 L F
      obtain ⟨x1, x2⟩ := lq_exit (T := T) h hL0 hz hZ c (by omega)
      have e0 : X6_leavesOnRight ic ac = nI (L - F) := lq_onR c.f c.l hFL
      by_cases cp : p0 ≤ nI k
      · have y1 : X6_takeAndTurn_L4 i0 a0 p0 (fu + 1) (nI N) (nI k) ic ac = exC ic ac (nI N) := if_pos cp
        have y2 : X8_scan_L45 i a p0 (fu' + 1) (nI N) (nI T) (nI k) b = exR i (nI N) (nI T) b := if_pos cp
        rw [y1, y2]
        exact ⟨⟨fun _ => x1, fun q => absurd cp q⟩, x2⟩
      · have kp : k < p0.toNatClampNeg := by
          rcases Nat.lt_or_ge k p0.toNatClampNeg with q | q
          · exact q
          · exact absurd (by rw [hp]; exact nI_le q (by omega)) cp
        by_cases cF : F = L
        · have g1 : X6_leavesOnRight ic ac ≤ 0 := by rw [e0, cF, Nat.sub_self]; decide
          have g2 : b 1 0 ≤ b 1 1 := by rw [c.1.f, c.1.l, cF]; exact nI_le (Nat.le_refl _) (by omega)
          have y1 : X6_takeAndTurn_L4 i0 a0 p0 (fu + 1) (nI N) (nI k) ic ac = exC ic ac (nI N) := (if_neg cp).trans (if_pos g1)
          have y2 : X8_scan_L45 i a p0 (fu' + 1) (nI N) (nI T) (nI k) b = exR i (nI N) (nI T) b := (if_neg cp).trans (if_pos g2)
          rw [y1, y2]
          exact ⟨⟨fun q => absurd q cp, fun _ => ⟨fun _ => x1, fun q => absurd g2 q⟩⟩, x2⟩
        · have hlt : F < L := by omega
          have g1 : ¬ X6_leavesOnRight ic ac ≤ 0 := by rw [e0]; exact nI_nle (by omega) (by omega)
          have g2 : ¬ b 1 0 ≤ b 1 1 := by rw [c.1.f, c.1.l]; exact nI_ge hlt (by omega)
          obtain ⟨w1, w2, Z', w3⟩ := lq_shotsW c.1 hL0
          have y2 : X8_scan_L45 i a p0 (fu' + 1) (nI N) (nI T) (nI k) b = X8_scan_L45 i a p0 fu' (nI N + (X8_shots (b 1)).1) (nI T + (X8_turns (X8_shots (b 1)).2).1) (nI k + 1) (va_up b 1 (X8_turns (X8_shots (b 1)).2).2) := (if_neg cp).trans (if_neg g2)
          have yS : S_X8_turns (X8_shots (b 1)).2 → S_X8_scan_L45 i a p0 fu' (nI N + (X8_shots (b 1)).1) (nI T + (X8_turns (X8_shots (b 1)).2).1) (nI k + 1) (va_up b 1 (X8_turns (X8_shots (b 1)).2).2) → S_X8_scan_L45 i a p0 (fu' + 1) (nI N) (nI T) (nI k) b := by
            intro s1 s2
            exact ⟨fun q => absurd q cp, fun _ => ⟨fun q => absurd q g2, fun _ => ⟨w1, fun x hx => ⟨by rw [hx]; exact s1, fun y hy => ⟨by rw [hy, hx]; exact s2, trivial⟩⟩⟩⟩⟩
          rcases lq_room c with ⟨q1, q2⟩ | ⟨q1, q2⟩
          · obtain ⟨p1, p2⟩ := lq_pair c hL0 q1
            obtain ⟨s1, t, ht, s2, s3, s4⟩ := lq_turn p2 hlt
            have y1 : X6_takeAndTurn_L4 i0 a0 p0 (fu + 1) (nI N) (nI k) ic ac = X6_takeAndTurn_L4 i0 a0 p0 fu (nI N + (X6_takePair ic ac).1) (nI k + 1) (X6_turnOnce (X6_takePair ic ac).2.1 (X6_takePair ic ac).2.2).2 (X6_takePair ic ac).2.2 := by
              refine (if_neg cp).trans ((if_neg g1).trans ?_)
              dsimp only
              rw [q2]
              exact if_neg (show ¬ (1 : Int32) = 0 by decide)
            rw [y1, y2]
            rw [w2, s3, nI_add, nI_add, nI_1] at yS ⊢
            rw [p1, nI_add]
            obtain ⟨u1, u2⟩ := ih fu' (k + 1) (N + lq_n L F) (T + t) (F + t) _ _ (va_up b 1 (X8_turns (X8_shots (b 1)).2).2) (h.a1 _) (by rw [lq_rown (by decide)]; exact hz) (by omega) (by rw [lq_row, show Z0 + (N + lq_n L F) = Z0 + N + lq_n L F by omega]; exact s4) (by omega) (by omega) (by omega) (by omega) (by omega)
            exact ⟨yS s1 u1, u2⟩
          · obtain ⟨s1, t, ht, e1, e2⟩ := lq_turnW w3 hlt
            have y1 : X6_takeAndTurn_L4 i0 a0 p0 (fu + 1) (nI N) (nI k) ic ac = ((-3), (ic, ac)) := by
              refine (if_neg cp).trans ((if_neg g1).trans ?_)
              dsimp only
              rw [q2]
              exact if_pos rfl
            obtain ⟨u1, b', u2, u3⟩ := lq_scanB (i := i) (a := a) (p0 := p0) (L := L) (Z0 := Z0) (row := b 0) hL0 hz hZ0 fu' (k + 1) (N + lq_n L F) (T + t) (F + t) Z' (va_up b 1 (X8_turns (X8_shots (b 1)).2).2) (lq_rown (by decide)) (by rw [lq_row]; exact e2) (by omega) (by omega) (by omega) (by omega) hp hp60 (by omega) (by omega)
            rw [y1, y2]
            rw [w2, e1, nI_add, nI_add, nI_1] at yS ⊢
            refine ⟨yS s1 u1, Or.inl ⟨rfl, by rw [u2], ?_⟩⟩
            rw [u2]
            refine h.to rfl rfl rfl ?_ ?_ ?_ ?_
            · exact (u3 0 (by decide)).trans (lq_rown (by decide))
            · exact (u3 2 (by decide)).trans (lq_rown (by decide))
            · exact (u3 3 (by decide)).trans (lq_rown (by decide))
            · exact (u3 4 (by decide)).trans (lq_rown (by decide))
theorem sim_scan (h : RW hs z Vh i0 a0 i2 a2 len sg i a) (p0 : Int32) :
    S_X8_scan i a p0 ∧ (X7_scan hs z Bh Vh i0 a0 i1 a1 p0).1 = (X8_scan i a p0).1 ∧ RW hs (X7_scan hs z Bh Vh i0 a0 i1 a1 p0).2.1 (X7_scan hs z Bh Vh i0 a0 i1 a1 p0).2.2.2.1 (X7_scan hs z Bh Vh i0 a0 i1 a1 p0).2.2.2.2.1 (X7_scan hs z Bh Vh i0 a0 i1 a1 p0).2.2.2.2.2.1 i2 a2 len sg (X8_scan i a p0).2.1 (X8_scan i a p0).2.2 := by
  have h0 := h
  obtain ⟨b, ⟨L, F, Z, c⟩, d, g⟩ := h
  have hZ := c.1.2.2.1
  have hFL := c.1.2.1
  unfold X7_scan X8_scan S_X8_scan
  rcases lq_inr (p := p0) (lo := 1) (hi := 60) (by decide) (by decide) with ⟨h1, h2⟩ | ⟨h1, h2, h3, k, h4, h5, h6⟩
  · have h1' : X8_in p0 1 60 = 0 := h1
    rw [h1']
    dsimp only
    rw [if_pos (show (0 : Int32) = 0 from rfl)]
    refine ⟨fun r hr => ⟨fun _ => trivial, fun q => absurd hr q⟩, ?_⟩
    by_cases q : p0 < 1
    · rw [if_pos q]; exact ⟨rfl, h0⟩
    · rw [if_neg q, if_neg (show ¬ p0 ≤ 60 from Int32.not_le.mpr (h2.resolve_left q))]; exact ⟨rfl, h0⟩
  · have h1' : X8_in p0 1 60 = 1 := h1
    have ek : p0.toNatClampNeg = k := by rw [h6]; exact nI_clamp (by omega)
    rw [h1', if_neg (show ¬ p0 < 1 from h2), if_pos (show p0 ≤ 60 from lt_nlt h3)]
    dsimp only
    rw [if_neg (show ¬ (1 : Int32) = 0 by decide)]
    rcases lq_hasBook c with ⟨x1, x2, x3⟩ | ⟨x1, x2, x3⟩
    · rw [x2, if_pos (show (0 : Int32) = 0 from rfl), if_pos x3]
      exact ⟨fun r hr => ⟨fun _ => trivial, fun _ => ⟨fun _ => trivial, fun q => absurd x3 q⟩⟩, rfl, h0⟩
    · rw [x2, if_neg (show ¬ (1 : Int32) = 0 by decide), if_neg x3]
      have f1 : p0.toNatClampNeg - 0 < ((p0 : Int32).toInt - (0 : Int32).toInt).toNat + 1 := by
        have q1 : p0.toInt = (k : Int) := by rw [h6]; exact nI_toInt (by omega)
        have q2 : (0 : Int32).toInt = 0 := by decide
        rw [ek, q1, q2]; omega
      have ct : RS L F (Z + 0) i0 a0 (va_up a 1 (X8_lays 532 532 (a 0) (a 1) 0 0) 1) := by
        rw [lq_row]; exact c.congr (fun k hk => lq_lays0 hk)
      obtain ⟨s1, s2⟩ := lq_scanA (hs := hs) (z := z) (Vh := Vh) (i0 := i0) (a0 := a0) (i2 := i2) (a2 := a2) (len := len) (sg := sg) (i := i) (a := a) (p0 := p0) (L := L) (Z0 := Z) x1 hZ (by rw [ek]; exact h6) (by omega) (((p0 : Int32).toInt - (0 : Int32).toInt).toNat + 1) (((p0 : Int32).toInt - (0 : Int32).toInt).toNat + 1) 0 0 0 F i0 a0 (va_up a 1 (X8_lays 532 532 (a 0) (a 1) 0 0)) (h0.a1 _) (by rw [lq_rown (by decide)]; exact c.1.z) (by omega) ct (by omega) (by omega) (by omega) f1 f1
      refine ⟨fun r _ => ⟨fun _ => trivial, fun _ => ⟨fun _ => trivial, fun _ => ⟨lq_laysS _ _, fun x hx => ⟨by rw [hx]; exact s1, trivial⟩⟩⟩⟩, ?_⟩
      have e7 : X6_takeAndTurn i0 a0 p0 = X6_takeAndTurn_L4 i0 a0 p0 (((p0 : Int32).toInt - (0 : Int32).toInt).toNat + 1) (nI 0) (nI 0) i0 a0 := rfl
      rw [e7]
      rcases s2 with ⟨u1, u2, u3⟩ | ⟨u1, u2, u3⟩
      · rw [if_pos u1]
        exact ⟨u2.symm, u3⟩
      · rw [if_neg u1]
        exact ⟨u2.symm, u3⟩
end SCAN
