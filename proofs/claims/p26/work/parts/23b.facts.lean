/-! ===== what refused calls answer, and that they leave all as it is ===== -/
theorem lo_p2 {X : Int32 × lo_T} {v : Int32} {σ : lo_T} (h : X = (v, σ)) : X.1 = v ∧ X.2 = σ := by subst h; exact ⟨rfl, rfl⟩
theorem lo_recE (σ : lo_T) (v : Int32) {X : Int32 × (Int32 × (Nat → Nat → Nat) × (Nat → lt_SV) × (Nat → Int32) × (Nat → Nat → Int32))} (h : X = (v, (σ.2.1, lo_zB, σ.2.2.1, σ.2.2.2.1.1, σ.2.2.2.1.2))) : (X.1, ((σ.1, X.2.1, X.2.2.2.1, (X.2.2.2.2.1, X.2.2.2.2.2), σ.2.2.2.2) : lo_T)) = (v, σ) := by subst h; rfl
theorem lo_recE2 (σ : lo_T) (v : Int32) {X : Int32 × (Int32 × (Nat → Nat → Nat) × (Nat → lt_SV) × (Nat → Int32) × (Nat → Nat → Int32) × (Nat → Int32) × (Nat → Nat → Int32))} (h : X = (v, (σ.2.1, lo_zB, σ.2.2.1, σ.2.2.2.1.1, σ.2.2.2.1.2, σ.2.2.2.2.1.1, σ.2.2.2.2.1.2))) : (X.1, ((σ.1, X.2.1, X.2.2.2.1, (X.2.2.2.2.1, X.2.2.2.2.2.1), (X.2.2.2.2.2.2.1, X.2.2.2.2.2.2.2), σ.2.2.2.2.2) : lo_T)) = (v, σ) := by subst h; rfl
theorem ra_lay1 (σ : lo_T) {p0 p1 : Int32} (h : p0 < 1) : lo_layBook σ p0 p1 = (-2, σ) := lo_recE σ (-2) (if_pos h)
theorem ra_lay2 (σ : lo_T) {p0 p1 : Int32} (h1 : ¬ p0 < 1) (h : 30 < p0) : lo_layBook σ p0 p1 = (-2, σ) := lo_recE σ (-2) ((if_neg h1).trans (if_pos h))
theorem ra_lay3 (σ : lo_T) {p0 p1 : Int32} (h1 : ¬ p0 < 1) (h2 : ¬ 30 < p0) (h : p1 < 0) : lo_layBook σ p0 p1 = (-2, σ) := lo_recE σ (-2) ((if_neg h1).trans ((if_neg h2).trans (if_pos h)))
theorem ra_lay4 (σ : lo_T) {p0 p1 : Int32} (h1 : ¬ p0 < 1) (h2 : ¬ 30 < p0) (h3 : ¬ p1 < 0) (h : ¬ p1 ≤ 9999) : lo_layBook σ p0 p1 = (-2, σ) := lo_recE σ (-2) ((if_neg h1).trans ((if_neg h2).trans ((if_neg h3).trans (if_neg h))))
theorem ra_hp1 {L p : Int32} {w st q : Nat → Int32} (h : p < 0) : X0_hasPage L w st q p = 0 := if_pos h
theorem ra_hp2 {L p : Int32} {w st q : Nat → Int32} (h1 : ¬ p < 0) (h : 2 * L ≤ p) : X0_hasPage L w st q p = 0 := (if_neg h1).trans (if_pos h)
theorem ra_hp3 {L p : Int32} {w st q : Nat → Int32} (h1 : ¬ p < 0) (h : ¬ 2 * L ≤ p) : X0_hasPage L w st q p = 1 := (if_neg h1).trans (if_neg h)
theorem ra_print1 (σ : lo_T) {p0 p1 : Int32} (h : X0_hasPage (σ.2.2.2.1.1 0) (σ.2.2.2.1.2 0) (σ.2.2.2.1.2 1) (σ.2.2.2.1.2 2) p0 = 0) : lo_print σ p0 p1 = (-1, σ) := lo_recE σ (-1) (if_pos h)
theorem ra_print2 (σ : lo_T) {p0 p1 : Int32} (h : X0_hasPage (σ.2.2.2.1.1 0) (σ.2.2.2.1.2 0) (σ.2.2.2.1.2 1) (σ.2.2.2.1.2 2) p0 = 1) (h1 : ¬ p1 = (-5)) (h2 : p1 < 0) : lo_print σ p0 p1 = (-2, σ) := lo_recE σ (-2) ((if_neg (by rw [h]; decide)).trans ((if_neg h1).trans (if_pos h2)))
theorem ra_print3 (σ : lo_T) {p0 p1 : Int32} (h : X0_hasPage (σ.2.2.2.1.1 0) (σ.2.2.2.1.2 0) (σ.2.2.2.1.2 1) (σ.2.2.2.1.2 2) p0 = 1) (h1 : ¬ p1 = (-5)) (h2 : ¬ p1 < 0) (h3 : ¬ p1 ≤ 199) : lo_print σ p0 p1 = (-2, σ) := lo_recE σ (-2) ((if_neg (by rw [h]; decide)).trans ((if_neg h1).trans ((if_neg h2).trans (if_neg h3))))
theorem ra_scan1 (σ : lo_T) {p0 : Int32} (h : p0 < 1) : lo_scan σ p0 = (-2, σ) := lo_recE2 σ (-2) (if_pos h)
theorem ra_scan2 (σ : lo_T) {p0 : Int32} (h1 : ¬ p0 < 1) (h : ¬ p0 ≤ 60) : lo_scan σ p0 = (-2, σ) := lo_recE2 σ (-2) ((if_neg h1).trans (if_neg h))
theorem ra_ph1 {z p : Int32} {pg nu gu pr : Nat → Int32} (h : p < 0) : X5_has z pg nu gu pr p = 0 := if_pos h
theorem ra_ph2 {z p : Int32} {pg nu gu pr : Nat → Int32} (h1 : ¬ p < 0) (h : z ≤ p) : X5_has z pg nu gu pr p = 0 := (if_neg h1).trans (if_pos h)
theorem ra_ph3 {z p : Int32} {pg nu gu pr : Nat → Int32} (h1 : ¬ p < 0) (h : ¬ z ≤ p) : X5_has z pg nu gu pr p = 1 := (if_neg h1).trans (if_neg h)
theorem ra_throw (σ : lo_T) {p0 : Int32} (h : X5_has (σ.2.2.2.1.1 2) (σ.2.2.2.1.2 3) (σ.2.2.2.1.2 4) (σ.2.2.2.1.2 5) (σ.2.2.2.1.2 6) p0 = 0) : lo_throwAway σ p0 = (-1, σ) := lo_recE σ (-1) (if_pos h)
theorem ra_suc (σ : lo_T) {p0 : Int32} (h : X7_isSuction p0 = 0) : lo_setSuction σ p0 = (-2, σ) := lo_recE σ (-2) (if_pos h)
theorem ra_set1 (σ : lo_T) {p0 p1 : Int32} (h : p0 < 0) : lo_set σ p0 p1 = (-2, σ) := lo_recE σ (-2) (if_pos h)
theorem ra_set2 (σ : lo_T) {p0 p1 : Int32} (h1 : ¬ p0 < 0) (h : ¬ p0 < 3) : lo_set σ p0 p1 = (-2, σ) := lo_recE σ (-2) ((if_neg h1).trans (if_neg h))
theorem ra_set3 (σ : lo_T) {p0 p1 : Int32} (h1 : ¬ p0 < 0) (h2 : p0 < 3) (h : p1 < 0) : lo_set σ p0 p1 = (-2, σ) := lo_recE σ (-2) ((if_neg h1).trans ((if_pos h2).trans (if_pos h)))
theorem ra_set4 (σ : lo_T) {p0 p1 : Int32} (h1 : ¬ p0 < 0) (h2 : p0 < 3) (h3 : ¬ p1 < 0) (h : ¬ p1 ≤ lt_most p0.toNatClampNeg) : lo_set σ p0 p1 = (-2, σ) := lo_recE σ (-2) ((if_neg h1).trans ((if_pos h2).trans ((if_neg h3).trans (if_neg h))))
theorem ra_leaf1 (σ : lo_T) {p0 p1 : Int32} (h : p0 < 0) : (lo_leaf σ p0 p1).1 = (-1) := if_pos h
theorem ra_leaf2 (σ : lo_T) {p0 p1 : Int32} (h1 : ¬ p0 < 0) (h : ¬ p0 < σ.2.2.2.1.1 0) : (lo_leaf σ p0 p1).1 = (-1) := (if_neg h1).trans (if_neg h)
theorem ra_leaf3 (σ : lo_T) {p0 p1 : Int32} (h1 : ¬ p0 < 0) (h2 : p0 < σ.2.2.2.1.1 0) (q0 : ¬ p1 = 0) (q1 : ¬ p1 = 1) (q2 : ¬ p1 = 2) : (lo_leaf σ p0 p1).1 = (-2) := (if_neg h1).trans ((if_pos h2).trans ((if_neg q0).trans ((if_neg q1).trans (if_neg q2))))
theorem ra_page1 (σ : lo_T) {p0 p1 : Int32} (h : X0_hasPage (σ.2.2.2.1.1 0) (σ.2.2.2.1.2 0) (σ.2.2.2.1.2 1) (σ.2.2.2.1.2 2) p0 = 0) : (lo_page σ p0 p1).1 = (-1) := congrArg Prod.fst (if_pos h)
theorem ra_page2 (σ : lo_T) {p0 p1 : Int32} (h : X0_hasPage (σ.2.2.2.1.1 0) (σ.2.2.2.1.2 0) (σ.2.2.2.1.2 1) (σ.2.2.2.1.2 2) p0 = 1) (q0 : ¬ p1 = 0) (q1 : ¬ p1 = 1) (q2 : ¬ p1 = 2) (q3 : ¬ p1 = 3) (q4 : ¬ p1 = 4) : (lo_page σ p0 p1).1 = (-2) := congrArg Prod.fst ((if_neg (by rw [h]; decide)).trans ((if_neg q0).trans ((if_neg q1).trans ((if_neg q2).trans ((if_neg q3).trans (if_neg q4))))))
theorem ra_pic1 (σ : lo_T) {p0 p1 : Int32} (h : X5_has (σ.2.2.2.1.1 2) (σ.2.2.2.1.2 3) (σ.2.2.2.1.2 4) (σ.2.2.2.1.2 5) (σ.2.2.2.1.2 6) p0 = 0) : (lo_picture σ p0 p1).1 = (-1) := congrArg Prod.fst (if_pos h)
theorem ra_pic2 (σ : lo_T) {p0 p1 : Int32} (h : X5_has (σ.2.2.2.1.1 2) (σ.2.2.2.1.2 3) (σ.2.2.2.1.2 4) (σ.2.2.2.1.2 5) (σ.2.2.2.1.2 6) p0 = 1) (q0 : ¬ p1 = 0) (q1 : ¬ p1 = 1) (q2 : ¬ p1 = 2) (q3 : ¬ p1 = 3) (q4 : ¬ p1 = 4) (q5 : ¬ p1 = 5) (q6 : ¬ p1 = 6) : (lo_picture σ p0 p1).1 = (-2) := congrArg Prod.fst ((if_neg (by rw [h]; decide)).trans ((if_neg q0).trans ((if_neg q1).trans ((if_neg q2).trans ((if_neg q3).trans ((if_neg q4).trans ((if_neg q5).trans (if_neg q6))))))))
theorem ra_open (σ : lo_T) {p0 : Int32} (q0 : ¬ p0 = 0) (q1 : ¬ p0 = 1) : (lo_open σ p0).1 = (-2) := (if_neg q0).trans (if_neg q1)
theorem ra_would (σ : lo_T) {p0 : Int32} (h : X7_isSuction p0 = 0) : (lo_would σ p0).1 = (-2) := if_pos h
theorem ra_lack (σ : lo_T) {p0 : Int32} (h : ¬ 0 ≤ p0) : (lo_lacking σ p0).1 = (-2) := congrArg Prod.fst (if_neg h)
set_option maxRecDepth 20000 in
theorem lo_n0 (σ : lo_T) : (lo_count σ 0).1 = σ.2.2.2.1.1 0 := congrArg Prod.fst (if_pos rfl)
set_option maxRecDepth 20000 in
theorem lo_n1 (σ : lo_T) : (lo_count σ 1).1 = σ.2.2.2.1.1 1 := congrArg Prod.fst ((if_neg (by decide)).trans (if_pos rfl))
set_option maxRecDepth 20000 in
theorem lo_n2 (σ : lo_T) : (lo_count σ 2).1 = σ.2.2.2.1.1 2 := congrArg Prod.fst ((if_neg (by decide)).trans ((if_neg (by decide)).trans (if_pos rfl)))
set_option maxRecDepth 20000 in
theorem lo_n15 (σ : lo_T) : (lo_count σ 15).1 = σ.2.1 := congrArg Prod.fst ((if_neg (by decide)).trans ((if_neg (by decide)).trans ((if_neg (by decide)).trans ((if_neg (by decide)).trans ((if_neg (by decide)).trans ((if_neg (by decide)).trans ((if_neg (by decide)).trans ((if_neg (by decide)).trans ((if_neg (by decide)).trans ((if_neg (by decide)).trans ((if_neg (by decide)).trans ((if_neg (by decide)).trans ((if_neg (by decide)).trans ((if_neg (by decide)).trans ((if_neg (by decide)).trans (if_pos rfl))))))))))))))))
set_option maxRecDepth 20000 in
theorem lo_n16 (σ : lo_T) : (lo_count σ 16).1 = σ.2.2.2.2.2.2.1 := congrArg Prod.fst ((if_neg (by decide)).trans ((if_neg (by decide)).trans ((if_neg (by decide)).trans ((if_neg (by decide)).trans ((if_neg (by decide)).trans ((if_neg (by decide)).trans ((if_neg (by decide)).trans ((if_neg (by decide)).trans ((if_neg (by decide)).trans ((if_neg (by decide)).trans ((if_neg (by decide)).trans ((if_neg (by decide)).trans ((if_neg (by decide)).trans ((if_neg (by decide)).trans ((if_neg (by decide)).trans ((if_neg (by decide)).trans (if_pos rfl)))))))))))))))))
set_option maxRecDepth 20000 in
theorem lo_nm1 (σ : lo_T) : (lo_count σ (-1)).1 = (-2) := congrArg Prod.fst ((if_neg (by decide)).trans ((if_neg (by decide)).trans ((if_neg (by decide)).trans ((if_neg (by decide)).trans ((if_neg (by decide)).trans ((if_neg (by decide)).trans ((if_neg (by decide)).trans ((if_neg (by decide)).trans ((if_neg (by decide)).trans ((if_neg (by decide)).trans ((if_neg (by decide)).trans ((if_neg (by decide)).trans ((if_neg (by decide)).trans ((if_neg (by decide)).trans ((if_neg (by decide)).trans ((if_neg (by decide)).trans (if_neg (by decide))))))))))))))))))
set_option maxRecDepth 20000 in
theorem lo_n17 (σ : lo_T) : (lo_count σ 17).1 = (-2) := congrArg Prod.fst ((if_neg (by decide)).trans ((if_neg (by decide)).trans ((if_neg (by decide)).trans ((if_neg (by decide)).trans ((if_neg (by decide)).trans ((if_neg (by decide)).trans ((if_neg (by decide)).trans ((if_neg (by decide)).trans ((if_neg (by decide)).trans ((if_neg (by decide)).trans ((if_neg (by decide)).trans ((if_neg (by decide)).trans ((if_neg (by decide)).trans ((if_neg (by decide)).trans ((if_neg (by decide)).trans ((if_neg (by decide)).trans (if_neg (by decide))))))))))))))))))
