theorem lv_eqI {args : Array Value} {s : State} {t : Term} {x : Int32} (h : (Cond.eq t (.int x)).before args s = true) : t.eval args s none [] s = some (.int x) := by
  have h : (Cond.eq t (.int x)).holds args s none s [] = true := h
  simp only [Cond.holds, Cond.value, Term.eval] at h
  cases ht : t.eval args s none [] s with
  | none => simp [ht] at h
  | some v => cases v <;> simp [ht] at h; rw [h]
/-- a table of three numbers, as the start gives it -/
theorem lv_tab3 {args : Array Value} {s : State} {nm : String} {x y z : Int32} {tab : Nat → Int32} (h0 : tab 0 = x) (h1 : tab 1 = y) (h2 : tab 2 = z) (hl : (Cond.laysStatic "LeafTurner" nm "[I").before args s = true) (hini : (Cond.initialized "LeafTurner").before args s = true)
    (harr : (Cond.arrayOf (.static "LeafTurner" nm "[I") .int).before args s = true) (hlen : (Cond.eq (.length (.static "LeafTurner" nm "[I")) (.int 3)).before args s = true)
    (e0 : (Cond.eq (.elem (.static "LeafTurner" nm "[I") (.int 0)) (.int x)).before args s = true) (e1 : (Cond.eq (.elem (.static "LeafTurner" nm "[I") (.int 1)) (.int y)).before args s = true) (e2 : (Cond.eq (.elem (.static "LeafTurner" nm "[I") (.int 2)) (.int z)).before args s = true) :
    lt_Zx nm tab (fun q => s.heap.size ≤ q) s s.heap := by
  have hA : ∀ a : Nat, a < s.heap.size → ¬ (fun q => s.heap.size ≤ q) a := fun a h => Nat.not_le.mpr h
  obtain ⟨t, ht, hT⟩ := va_Tof (N := 3) (f := fun j => .int (tab j)) (by decide) harr (lv_eqI hlen) (fun j hj => by
    rcases (show j = 0 ∨ j = 1 ∨ j = 2 by omega) with rfl | rfl | rfl
    · rw [h0]; exact lv_eqI e0
    · rw [h1]; exact lv_eqI e1
    · rw [h2]; exact lv_eqI e2) hA
  exact ⟨t, va_Zof hl hini ht hA, hT⟩
theorem lv_nwin : ∀ w ∈ lt_nw, w ∈ lw_tbl := by decide +kernel
set_option maxHeartbeats 4000000 in
/-- what the start gives: the classes, the arrays' classes, the links within the nest, the two tables -/
theorem lv_start {p : Program} {s : State} {m : MethodId} {meth : Method} {c : Code} {b L : Nat} {xs : Nat → Int32} (C0 : lw_At p s m meth c b L xs) :
    ∃ (D : va_G) (yI yC yO : ClassId), lt_K D yI yC yO s ∧ va_AO "LeafTurner$State" s ∧ lt_Zx "SETTING_AT_FIRST" lt_first (fun q => s.heap.size ≤ q) s s.heap ∧ lt_Zt (fun q => s.heap.size ≤ q) s := by
  obtain ⟨hx, hb, hr, hml, hown, hts, hX, hbl, hlocks, hgv⟩ := C0
  have hf := flat_of_before _ hgv
  obtain ⟨c0, iS0, hKn0⟩ := u_known (C := RX0) (T := TX0) (N := 4) (n := 4) hts inX0 (hts (.instantiable RX0 4) (by decide +kernel))
  obtain ⟨c1, iS1, hKn1⟩ := u_known (C := RX1) (T := TX1) (N := 2) (n := 2) hts inX1 (hts (.instantiable RX1 2) (by decide +kernel))
  obtain ⟨c2, iS2, hKn2⟩ := u_known (C := RX2) (T := TX2) (N := 2) (n := 2) hts inX2 (hts (.instantiable RX2 2) (by decide +kernel))
  obtain ⟨c3, iS3, hKn3⟩ := u_known (C := RX3) (T := TX3) (N := 1) (n := 1) hts inX3 (hts (.instantiable RX3 1) (by decide +kernel))
  obtain ⟨c4, iS4, hKn4⟩ := u_known (C := RX4) (T := TX4) (N := 4) (n := 4) hts inX4 (hts (.instantiable RX4 4) (by decide +kernel))
  obtain ⟨c5, iS5, hKn5⟩ := u_known (C := RX5) (T := TX5) (N := 5) (n := 5) hts inX5 (hts (.instantiable RX5 5) (by decide +kernel))
  obtain ⟨c6, iS6, hKn6⟩ := u_known (C := RX6) (T := TX6) (N := 10) (n := 10) hts inX6 (hts (.instantiable RX6 10) (by decide +kernel))
  obtain ⟨c7, iS7, hKn7⟩ := u_known (C := RX7) (T := TX7) (N := 7) (n := 7) hts inX7 (hts (.instantiable RX7 7) (by decide +kernel))
  obtain ⟨D, hKc⟩ : ∃ (D : va_G), ∀ (k : Nat) (q : vw_C), vwCl[k]? = some q → u_Kn s q.1 q.2.1 q.2.2 (D.1 k) (D.2 k) := by
    refine ⟨(fun k => if k = 0 then c0 else if k = 1 then c1 else if k = 2 then c2 else if k = 3 then c3 else if k = 4 then c4 else if k = 5 then c5 else if k = 6 then c6 else c7, fun k => if k = 0 then iS0 else if k = 1 then iS1 else if k = 2 then iS2 else if k = 3 then iS3 else if k = 4 then iS4 else if k = 5 then iS5 else if k = 6 then iS6 else iS7), ?_⟩
    intro k q hq
    match k, hq with
    | 0, hq => cases hq; exact hKn0
    | 1, hq => cases hq; exact hKn1
    | 2, hq => cases hq; exact hKn2
    | 3, hq => cases hq; exact hKn3
    | 4, hq => cases hq; exact hKn4
    | 5, hq => cases hq; exact hKn5
    | 6, hq => cases hq; exact hKn6
    | 7, hq => cases hq; exact hKn7
    | k + 8, hq => simp [vwCl] at hq
  obtain ⟨yI, kI, pI, i1, i2, i3⟩ := Cond.arrayClass_spec (show (Cond.arrayClass .int).holds #[Value.ref b] s none s [] = true from hts (.arrayClass .int) (by decide +kernel))
  obtain ⟨yC, kC, pC, j1, j2, j3⟩ := Cond.arrayClass_spec (show (Cond.arrayClass .char).holds #[Value.ref b] s none s [] = true from hts (.arrayClass .char) (by decide +kernel))
  have hAO : (Cond.arrayOver (.object "LeafTurner$State")).before #[Value.ref b] s = true := hts (.arrayOver (.object "LeafTurner$State")) (by decide +kernel)
  obtain ⟨pO, yO, kO, o1, o2, o3, o4, o5⟩ := Cond.arrayOver_spec (show (Cond.arrayOver (.object "LeafTurner$State")).holds #[Value.ref b] s none s [] = true from hAO)
  have hini := hts (.initialized "LeafTurner") (by decide +kernel)
  refine ⟨D, yI, yC, yO, ⟨⟨hKc, ?_⟩, ?_⟩, va_AO.of hAO, ?_, ?_⟩
  · intro k q hq
    match k, hq with
    | 0, hq => cases hq; exact ⟨fun n z => ⟨fun k h => (by cases h), kI, i2, pI, i3⟩, i1⟩
    | 1, hq => cases hq; exact ⟨fun n z => ⟨fun k h => (by cases h), kC, j2, pC, j3⟩, j1⟩
    | 2, hq => cases hq; exact ⟨fun n z => ⟨fun k h => (by cases h), kO, o3, pO, o4⟩, ⟨kO, pO, o3, o4, o1, o5⟩⟩
    | k + 3, hq => simp [lt_ty] at hq
  · intro w hw
    have h1 := List.all_eq_true.mp lt_nw_isN w hw
    have h2 := hts w (lv_nwin w hw)
    cases w <;> first | (simp [lt_isN] at h1; done) | exact va_Nw.of rfl h2
  · exact lv_tab3 (x := 2) (y := 0) (z := 1) rfl rfl rfl (hts (.laysStatic "LeafTurner" "SETTING_AT_FIRST" "[I") (by decide +kernel)) hini (hf _ (by decide +kernel)) (hf _ (by decide +kernel)) (hf _ (by decide +kernel)) (hf _ (by decide +kernel)) (hf _ (by decide +kernel))
  · exact lv_tab3 (x := 10) (y := 1) (z := 99) rfl rfl rfl (hts (.laysStatic "LeafTurner" "SETTING_AT_MOST" "[I") (by decide +kernel)) hini (hf _ (by decide +kernel)) (hf _ (by decide +kernel)) (hf _ (by decide +kernel)) (hf _ (by decide +kernel)) (hf _ (by decide +kernel))
