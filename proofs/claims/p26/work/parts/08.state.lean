def X6_clearForBook (i : Nat → Int32) (a : Nat → Nat → Int32) : (Nat → Int32) :=
  ((upd (upd (upd (upd (upd (upd (upd i 2 0) 1 0) 4 0) 5 0) 6 0) 7 0) 3 0))
theorem iw_X6_clearForBook_6 : ∀ w ∈ wsX60, w ∈ wsX6_clearForBook := by decide +kernel
theorem iw_X6_clearForBook_5 : ∀ w ∈ wsX50, w ∈ wsX6_clearForBook := by decide +kernel
set_option maxHeartbeats 4000000 in
set_option maxRecDepth 100000 in
theorem c_X6_clearForBook (l : Launch) (D : va_G) (yI yC yO : ClassId) (B : Nat → Nat) (i : Nat → Int32) (a : Nat → Nat → Int32) (sz : Nat) : Met l yX6_clearForBook wsX6_clearForBook ({ frames := 0, cells := 0, slots := 0, locals := 0 }) (va_Pc [.ref (B 0)] (lt_M D yI yC yO (lt_St yI B i a) sz)) (lt_Qv D (X6_clearForBook i a) (fun u => lt_St yI B u a) (va_A (lt_St yI B i a) sz)) 0 0 (va_A (lt_St yI B i a) sz) := by
  refine Met.ofW (cc := cX6_clearForBook) (maxL := 1) (ret := none) (by decide) rfl ?_
  intro p e s m args below meth c s₁ B0 hml hv
  obtain ⟨rfl, hsz, hP, hK0, hD0⟩ := hv
  have hx := B0.exec
  have hb := B0.bytes
  have hret := B0.returns
  have hts := atoms_spec (ws := wsX6_clearForBook) B0.pre
  have hown : s.vm.findClass RX6 = some m.cls := findClass_of_methodNamed B0.named
  have hlocks := B0.notSynchronized
  have hK := hK0.1
  have hN := hK0.2
  subst hsz
  have hD := hD0.self (sz := s.heap.size)
  generalize hAe : va_A (lt_St yI B i a) s.heap.size = A at hD ⊢
  have hA : ∀ q : Nat, s.heap.size ≤ q → A q := fun q h => by rw [← hAe]; exact Or.inr h
  have hS : va_S A s.heap s.heap [] := va_S.rf
  have hP : va_P D vwCl (lt_St yI B i a) s.heap := hP
  have hD : va_D A (lt_St yI B i a) := hD
  have hl := lv_entry ([.ref (B 0)]) (n := 1) (Nat.le_of_ble_eq_true rfl)
  rw [lg_entry_eq]
  generalize (lg_sl ([.ref (B 0)]) ++ List.replicate (1 - (lg_sl ([.ref (B 0)])).length) Slot.unset).toArray = ls at hl ⊢
  have hl : lv_has ls 1 [(0, .ref (B 0))] := hl
  refine lv_aload_n hx hb dX6_clearForBook_0 rfl (lv_at hl 0 rfl) ?_
  refine va_get (D := D) (ci := 6) (v := .ref (B 8)) (C := RX6) (T := TX6) (N := 10) hx hb hts iw_X6_clearForBook_6 hown hK hP 0 rfl rfl 1 (by decide) (hts (.fieldLink RX6 21 "LeafTurner$State" "pictures" "LLeafTurner$Pictures;") (by decide +kernel)) (fun _ h9 => h9) rfl dX6_clearForBook_1 ?_
  refine lv_iconst (v := 0) hx hb dX6_clearForBook_4 (by decide) ?_
  refine va_putN (D := D) (ci := 5) (v := .int 0) (ty := .int) (C := RX5) (T := TX5) (N := 5) hx hb hts iw_X6_clearForBook_5 tyX5 tyX5_ok nmX5 hown hK hP hD hS 8 rfl rfl 4 (by decide) (va_Nw.use rfl (hN _ lt_nw15)) (fun _ h9 => h9) rfl (by decide +kernel) rfl rfl (Nat.le_of_ble_eq_true rfl) dX6_clearForBook_5 (fun H locs hP hD hS => ?_)
  have hP : va_P D vwCl (lt_St yI B (upd i 2 0) a) H := hP
  have hD : va_D A (lt_St yI B (upd i 2 0) a) := hD
  refine lv_aload_n hx hb dX6_clearForBook_8 rfl (lv_at hl 0 rfl) ?_
  refine lv_iconst (v := 0) hx hb dX6_clearForBook_9 (by decide) ?_
  refine va_put (D := D) (ci := 6) (v := .int 0) (ty := .int) (C := RX6) (T := TX6) (N := 10) hx hb hts iw_X6_clearForBook_6 tyX6 tyX6_ok nmX6 hown hK hP hD hS 0 rfl rfl 3 (by decide) (hts (.fieldLink RX6 56 "LeafTurner$State" "left" "I") (by decide +kernel)) (fun _ h9 => h9) rfl (by decide +kernel) rfl rfl (Nat.le_of_ble_eq_true rfl) dX6_clearForBook_10 (fun H locs hP hD hS => ?_)
  have hP : va_P D vwCl (lt_St yI B (upd (upd i 2 0) 1 0) a) H := hP
  have hD : va_D A (lt_St yI B (upd (upd i 2 0) 1 0) a) := hD
  refine lv_aload_n hx hb dX6_clearForBook_13 rfl (lv_at hl 0 rfl) ?_
  refine lv_iconst (v := 0) hx hb dX6_clearForBook_14 (by decide) ?_
  refine va_put (D := D) (ci := 6) (v := .int 0) (ty := .int) (C := RX6) (T := TX6) (N := 10) hx hb hts iw_X6_clearForBook_6 tyX6 tyX6_ok nmX6 hown hK hP hD hS 0 rfl rfl 5 (by decide) (hts (.fieldLink RX6 59 "LeafTurner$State" "turnings" "I") (by decide +kernel)) (fun _ h9 => h9) rfl (by decide +kernel) rfl rfl (Nat.le_of_ble_eq_true rfl) dX6_clearForBook_15 (fun H locs hP hD hS => ?_)
  have hP : va_P D vwCl (lt_St yI B (upd (upd (upd i 2 0) 1 0) 4 0) a) H := hP
  have hD : va_D A (lt_St yI B (upd (upd (upd i 2 0) 1 0) 4 0) a) := hD
  refine lv_aload_n hx hb dX6_clearForBook_18 rfl (lv_at hl 0 rfl) ?_
  refine lv_iconst (v := 0) hx hb dX6_clearForBook_19 (by decide) ?_
  refine va_put (D := D) (ci := 6) (v := .int 0) (ty := .int) (C := RX6) (T := TX6) (N := 10) hx hb hts iw_X6_clearForBook_6 tyX6 tyX6_ok nmX6 hown hK hP hD hS 0 rfl rfl 6 (by decide) (hts (.fieldLink RX6 62 "LeafTurner$State" "turningsOfMore" "I") (by decide +kernel)) (fun _ h9 => h9) rfl (by decide +kernel) rfl rfl (Nat.le_of_ble_eq_true rfl) dX6_clearForBook_20 (fun H locs hP hD hS => ?_)
  have hP : va_P D vwCl (lt_St yI B (upd (upd (upd (upd i 2 0) 1 0) 4 0) 5 0) a) H := hP
  have hD : va_D A (lt_St yI B (upd (upd (upd (upd i 2 0) 1 0) 4 0) 5 0) a) := hD
  refine lv_aload_n hx hb dX6_clearForBook_23 rfl (lv_at hl 0 rfl) ?_
  refine lv_iconst (v := 0) hx hb dX6_clearForBook_24 (by decide) ?_
  refine va_put (D := D) (ci := 6) (v := .int 0) (ty := .int) (C := RX6) (T := TX6) (N := 10) hx hb hts iw_X6_clearForBook_6 tyX6 tyX6_ok nmX6 hown hK hP hD hS 0 rfl rfl 7 (by decide) (hts (.fieldLink RX6 65 "LeafTurner$State" "turningsOfNone" "I") (by decide +kernel)) (fun _ h9 => h9) rfl (by decide +kernel) rfl rfl (Nat.le_of_ble_eq_true rfl) dX6_clearForBook_25 (fun H locs hP hD hS => ?_)
  have hP : va_P D vwCl (lt_St yI B (upd (upd (upd (upd (upd i 2 0) 1 0) 4 0) 5 0) 6 0) a) H := hP
  have hD : va_D A (lt_St yI B (upd (upd (upd (upd (upd i 2 0) 1 0) 4 0) 5 0) 6 0) a) := hD
  refine lv_aload_n hx hb dX6_clearForBook_28 rfl (lv_at hl 0 rfl) ?_
  refine lv_iconst (v := 0) hx hb dX6_clearForBook_29 (by decide) ?_
  refine va_put (D := D) (ci := 6) (v := .int 0) (ty := .int) (C := RX6) (T := TX6) (N := 10) hx hb hts iw_X6_clearForBook_6 tyX6 tyX6_ok nmX6 hown hK hP hD hS 0 rfl rfl 8 (by decide) (hts (.fieldLink RX6 68 "LeafTurner$State" "singlesInRow" "I") (by decide +kernel)) (fun _ h9 => h9) rfl (by decide +kernel) rfl rfl (Nat.le_of_ble_eq_true rfl) dX6_clearForBook_30 (fun H locs hP hD hS => ?_)
  have hP : va_P D vwCl (lt_St yI B (upd (upd (upd (upd (upd (upd i 2 0) 1 0) 4 0) 5 0) 6 0) 7 0) a) H := hP
  have hD : va_D A (lt_St yI B (upd (upd (upd (upd (upd (upd i 2 0) 1 0) 4 0) 5 0) 6 0) 7 0) a) := hD
  refine lv_aload_n hx hb dX6_clearForBook_33 rfl (lv_at hl 0 rfl) ?_
  refine lv_iconst (v := 0) hx hb dX6_clearForBook_34 (by decide) ?_
  refine va_put (D := D) (ci := 6) (v := .int 0) (ty := .int) (C := RX6) (T := TX6) (N := 10) hx hb hts iw_X6_clearForBook_6 tyX6 tyX6_ok nmX6 hown hK hP hD hS 0 rfl rfl 9 (by decide) (hts (.fieldLink RX6 71 "LeafTurner$State" "pairs" "I") (by decide +kernel)) (fun _ h9 => h9) rfl (by decide +kernel) rfl rfl (Nat.le_of_ble_eq_true rfl) dX6_clearForBook_35 (fun H locs hP hD hS => ?_)
  have hP : va_P D vwCl (lt_St yI B (upd (upd (upd (upd (upd (upd (upd i 2 0) 1 0) 4 0) 5 0) 6 0) 7 0) 3 0) a) H := hP
  have hD : va_D A (lt_St yI B (upd (upd (upd (upd (upd (upd (upd i 2 0) 1 0) 4 0) 5 0) 6 0) 7 0) 3 0) a) := hD
  exact W.vret hx hb hret (fun t ht hW => ⟨⟨((upd (upd (upd (upd (upd (upd (upd i 2 0) 1 0) 4 0) 5 0) 6 0) 7 0) 3 0)), rfl, (Eq.symm rfl), by rw [ht]; exact hP, hD⟩, hS.F ht⟩) hS.2.2 dX6_clearForBook_38

def X6_hasBook (i : Nat → Int32) (a : Nat → Nat → Int32) : Int32 :=
  if (i 0) ≤ 0 then
    0
  else
    1
theorem iw_X6_hasBook_6 : ∀ w ∈ wsX60, w ∈ wsX6_hasBook := by decide +kernel
theorem iw_X6_hasBook_0 : ∀ w ∈ wsX00, w ∈ wsX6_hasBook := by decide +kernel
set_option maxHeartbeats 4000000 in
set_option maxRecDepth 100000 in
theorem c_X6_hasBook (l : Launch) (D : va_G) (yI yC yO : ClassId) (B : Nat → Nat) (i : Nat → Int32) (a : Nat → Nat → Int32) : Met l yX6_hasBook wsX6_hasBook ({ frames := 0, cells := 0, slots := 0, locals := 0 }) (va_Pc [.ref (B 0)] (lt_R D yI yC yO (lt_St yI B i a))) (lt_Si (X6_hasBook i a)) 0 0 (fun _ => False) := by
  refine Met.ofW (cc := cX6_hasBook) (maxL := 1) (ret := (some .boolean)) (by decide) rfl ?_
  intro p e s m args below meth c s₁ B0 hml hv
  obtain ⟨rfl, hP, hK0⟩ := hv
  have hx := B0.exec
  have hb := B0.bytes
  have hret := B0.returns
  have hts := atoms_spec (ws := wsX6_hasBook) B0.pre
  have hown : s.vm.findClass RX6 = some m.cls := findClass_of_methodNamed B0.named
  have hlocks := B0.notSynchronized
  have hK := hK0.1
  have hN := hK0.2
  have hP : va_P D vwCl (lt_St yI B i a) s.heap := hP
  have hl := lv_entry ([.ref (B 0)]) (n := 1) (Nat.le_of_ble_eq_true rfl)
  rw [lg_entry_eq]
  generalize (lg_sl ([.ref (B 0)]) ++ List.replicate (1 - (lg_sl ([.ref (B 0)])).length) Slot.unset).toArray = ls at hl ⊢
  have hl : lv_has ls 1 [(0, .ref (B 0))] := hl
  refine lv_aload_n hx hb dX6_hasBook_0 rfl (lv_at hl 0 rfl) ?_
  refine va_get (D := D) (ci := 6) (v := .ref (B 1)) (C := RX6) (T := TX6) (N := 10) hx hb hts iw_X6_hasBook_6 hown hK hP 0 rfl rfl 0 (by decide) (hts (.fieldLink RX6 12 "LeafTurner$State" "book" "LLeafTurner$Book;") (by decide +kernel)) (fun _ h9 => h9) rfl dX6_hasBook_1 ?_
  refine va_getN (D := D) (ci := 0) (v := .int (i 0)) (C := RX0) (T := TX0) (N := 4) hx hb hts iw_X6_hasBook_0 hown hK hP 1 rfl rfl 3 (by decide) (va_Nw.use rfl (hN _ lt_nw8)) (fun _ h9 => h9) rfl dX6_hasBook_4 ?_
  refine lv_if_le (tgt := 14) hx hb dX6_hasBook_7 (by decide) (fun c_7 => ?_) (fun c_7 => ?_)
  · refine lv_iconst (v := 0) hx hb dX6_hasBook_14 (by decide) ?_
    exact W.zret (v := 0) hx hb hret lt_z0 (fun t ht hW => ⟨0, rfl, (Eq.symm (Eq.trans (if_pos c_7) rfl)), ht⟩) (fun _ h => absurd h List.not_mem_nil) dX6_hasBook_15
  · refine lv_iconst (v := 1) hx hb dX6_hasBook_10 (by decide) ?_
    refine lv_goto (tgt := 15) hx hb dX6_hasBook_11 (by decide) ?_
    exact W.zret (v := 1) hx hb hret lt_z1 (fun t ht hW => ⟨1, rfl, (Eq.symm (Eq.trans (if_neg c_7) rfl)), ht⟩) (fun _ h => absurd h List.not_mem_nil) dX6_hasBook_15

def X6_leavesOnRight (i : Nat → Int32) (a : Nat → Nat → Int32) : Int32 :=
  ((i 0) - (i 1))
theorem iw_X6_leavesOnRight_6 : ∀ w ∈ wsX60, w ∈ wsX6_leavesOnRight := by decide +kernel
theorem iw_X6_leavesOnRight_0 : ∀ w ∈ wsX00, w ∈ wsX6_leavesOnRight := by decide +kernel
set_option maxHeartbeats 4000000 in
set_option maxRecDepth 100000 in
theorem c_X6_leavesOnRight (l : Launch) (D : va_G) (yI yC yO : ClassId) (B : Nat → Nat) (i : Nat → Int32) (a : Nat → Nat → Int32) : Met l yX6_leavesOnRight wsX6_leavesOnRight ({ frames := 0, cells := 0, slots := 0, locals := 0 }) (va_Pc [.ref (B 0)] (lt_R D yI yC yO (lt_St yI B i a))) (lt_Si (X6_leavesOnRight i a)) 0 0 (fun _ => False) := by
  refine Met.ofW (cc := cX6_leavesOnRight) (maxL := 1) (ret := (some .int)) (by decide) rfl ?_
  intro p e s m args below meth c s₁ B0 hml hv
  obtain ⟨rfl, hP, hK0⟩ := hv
  have hx := B0.exec
  have hb := B0.bytes
  have hret := B0.returns
  have hts := atoms_spec (ws := wsX6_leavesOnRight) B0.pre
  have hown : s.vm.findClass RX6 = some m.cls := findClass_of_methodNamed B0.named
  have hlocks := B0.notSynchronized
  have hK := hK0.1
  have hN := hK0.2
  have hP : va_P D vwCl (lt_St yI B i a) s.heap := hP
  have hl := lv_entry ([.ref (B 0)]) (n := 1) (Nat.le_of_ble_eq_true rfl)
  rw [lg_entry_eq]
  generalize (lg_sl ([.ref (B 0)]) ++ List.replicate (1 - (lg_sl ([.ref (B 0)])).length) Slot.unset).toArray = ls at hl ⊢
  have hl : lv_has ls 1 [(0, .ref (B 0))] := hl
  refine lv_aload_n hx hb dX6_leavesOnRight_0 rfl (lv_at hl 0 rfl) ?_
  refine va_get (D := D) (ci := 6) (v := .ref (B 1)) (C := RX6) (T := TX6) (N := 10) hx hb hts iw_X6_leavesOnRight_6 hown hK hP 0 rfl rfl 0 (by decide) (hts (.fieldLink RX6 12 "LeafTurner$State" "book" "LLeafTurner$Book;") (by decide +kernel)) (fun _ h9 => h9) rfl dX6_leavesOnRight_1 ?_
  refine va_getN (D := D) (ci := 0) (v := .int (i 0)) (C := RX0) (T := TX0) (N := 4) hx hb hts iw_X6_leavesOnRight_0 hown hK hP 1 rfl rfl 3 (by decide) (va_Nw.use rfl (hN _ lt_nw8)) (fun _ h9 => h9) rfl dX6_leavesOnRight_4 ?_
  refine lv_aload_n hx hb dX6_leavesOnRight_7 rfl (lv_at hl 0 rfl) ?_
  refine va_get (D := D) (ci := 6) (v := .int (i 1)) (C := RX6) (T := TX6) (N := 10) hx hb hts iw_X6_leavesOnRight_6 hown hK hP 0 rfl rfl 3 (by decide) (hts (.fieldLink RX6 56 "LeafTurner$State" "left" "I") (by decide +kernel)) (fun _ h9 => h9) rfl dX6_leavesOnRight_8 ?_
  refine lv_isub hx hb dX6_leavesOnRight_11 ?_
  exact W.iret (v := ((i 0) - (i 1))) hx hb hret (fun t ht hW => ⟨((i 0) - (i 1)), rfl, (Eq.symm rfl), ht⟩) (fun _ h => absurd h List.not_mem_nil) dX6_leavesOnRight_12

def X6_openOnLeft (i : Nat → Int32) (a : Nat → Nat → Int32) : Int32 :=
  if (i 1) ≤ 0 then
    (-5)
  else
    ((2 * (i 1)) - 1)
theorem iw_X6_openOnLeft_6 : ∀ w ∈ wsX60, w ∈ wsX6_openOnLeft := by decide +kernel
set_option maxHeartbeats 4000000 in
set_option maxRecDepth 100000 in
theorem c_X6_openOnLeft (l : Launch) (D : va_G) (yI yC yO : ClassId) (B : Nat → Nat) (i : Nat → Int32) (a : Nat → Nat → Int32) : Met l yX6_openOnLeft wsX6_openOnLeft ({ frames := 0, cells := 0, slots := 0, locals := 0 }) (va_Pc [.ref (B 0)] (lt_R D yI yC yO (lt_St yI B i a))) (lt_Si (X6_openOnLeft i a)) 0 0 (fun _ => False) := by
  refine Met.ofW (cc := cX6_openOnLeft) (maxL := 1) (ret := (some .int)) (by decide) rfl ?_
  intro p e s m args below meth c s₁ B0 hml hv
  obtain ⟨rfl, hP, hK0⟩ := hv
  have hx := B0.exec
  have hb := B0.bytes
  have hret := B0.returns
  have hts := atoms_spec (ws := wsX6_openOnLeft) B0.pre
  have hown : s.vm.findClass RX6 = some m.cls := findClass_of_methodNamed B0.named
  have hlocks := B0.notSynchronized
  have hK := hK0.1
  have hN := hK0.2
  have hP : va_P D vwCl (lt_St yI B i a) s.heap := hP
  have hl := lv_entry ([.ref (B 0)]) (n := 1) (Nat.le_of_ble_eq_true rfl)
  rw [lg_entry_eq]
  generalize (lg_sl ([.ref (B 0)]) ++ List.replicate (1 - (lg_sl ([.ref (B 0)])).length) Slot.unset).toArray = ls at hl ⊢
  have hl : lv_has ls 1 [(0, .ref (B 0))] := hl
  refine lv_aload_n hx hb dX6_openOnLeft_0 rfl (lv_at hl 0 rfl) ?_
  refine va_get (D := D) (ci := 6) (v := .int (i 1)) (C := RX6) (T := TX6) (N := 10) hx hb hts iw_X6_openOnLeft_6 hown hK hP 0 rfl rfl 3 (by decide) (hts (.fieldLink RX6 56 "LeafTurner$State" "left" "I") (by decide +kernel)) (fun _ h9 => h9) rfl dX6_openOnLeft_1 ?_
  refine lv_if_le (tgt := 18) hx hb dX6_openOnLeft_4 (by decide) (fun c_4 => ?_) (fun c_4 => ?_)
  · refine lv_bipush (v := (-5)) hx hb dX6_openOnLeft_18 (by decide) ?_
    exact W.iret (v := (-5)) hx hb hret (fun t ht hW => ⟨(-5), rfl, (Eq.symm (Eq.trans (if_pos c_4) rfl)), ht⟩) (fun _ h => absurd h List.not_mem_nil) dX6_openOnLeft_20
  · refine lv_iconst (v := 2) hx hb dX6_openOnLeft_7 (by decide) ?_
    refine lv_aload_n hx hb dX6_openOnLeft_8 rfl (lv_at hl 0 rfl) ?_
    refine va_get (D := D) (ci := 6) (v := .int (i 1)) (C := RX6) (T := TX6) (N := 10) hx hb hts iw_X6_openOnLeft_6 hown hK hP 0 rfl rfl 3 (by decide) (hts (.fieldLink RX6 56 "LeafTurner$State" "left" "I") (by decide +kernel)) (fun _ h9 => h9) rfl dX6_openOnLeft_9 ?_
    refine lv_imul hx hb dX6_openOnLeft_12 ?_
    refine lv_iconst (v := 1) hx hb dX6_openOnLeft_13 (by decide) ?_
    refine lv_isub hx hb dX6_openOnLeft_14 ?_
    refine lv_goto (tgt := 20) hx hb dX6_openOnLeft_15 (by decide) ?_
    exact W.iret (v := ((2 * (i 1)) - 1)) hx hb hret (fun t ht hW => ⟨((2 * (i 1)) - 1), rfl, (Eq.symm (Eq.trans (if_neg c_4) rfl)), ht⟩) (fun _ h => absurd h List.not_mem_nil) dX6_openOnLeft_20

def X6_openOnRight (i : Nat → Int32) (a : Nat → Nat → Int32) : Int32 :=
  let r_1 := X6_leavesOnRight i a
  if r_1 ≤ 0 then
    (-5)
  else
    (2 * (i 1))
theorem iw_X6_openOnRight_6 : ∀ w ∈ wsX60, w ∈ wsX6_openOnRight := by decide +kernel
set_option maxHeartbeats 4000000 in
set_option maxRecDepth 100000 in
theorem c_X6_openOnRight (l : Launch) (D : va_G) (yI yC yO : ClassId) (B : Nat → Nat) (i : Nat → Int32) (a : Nat → Nat → Int32) : Met l yX6_openOnRight wsX6_openOnRight ({ frames := 1, cells := 0, slots := 0, locals := 30 }) (va_Pc [.ref (B 0)] (lt_R D yI yC yO (lt_St yI B i a))) (lt_Si (X6_openOnRight i a)) 0 0 (fun _ => False) := by
  refine Met.ofW (cc := cX6_openOnRight) (maxL := 1) (ret := (some .int)) (by decide) rfl ?_
  intro p e s m args below meth c s₁ B0 hml hv
  obtain ⟨rfl, hP, hK0⟩ := hv
  have hx := B0.exec
  have hb := B0.bytes
  have hret := B0.returns
  have hts := atoms_spec (ws := wsX6_openOnRight) B0.pre
  have hown : s.vm.findClass RX6 = some m.cls := findClass_of_methodNamed B0.named
  have hlocks := B0.notSynchronized
  have hK := hK0.1
  have hN := hK0.2
  have hP : va_P D vwCl (lt_St yI B i a) s.heap := hP
  have hl := lv_entry ([.ref (B 0)]) (n := 1) (Nat.le_of_ble_eq_true rfl)
  rw [lg_entry_eq]
  generalize (lg_sl ([.ref (B 0)]) ++ List.replicate (1 - (lg_sl ([.ref (B 0)])).length) Slot.unset).toArray = ls at hl ⊢
  have hl : lv_has ls 1 [(0, .ref (B 0))] := hl
  refine lv_aload_n hx hb dX6_openOnRight_0 rfl (lv_at hl 0 rfl) ?_
  have hPc := hP.sub (ws' := lt_St yI B i a) [0, 1, 2, 3, 4, 5, 6, 7, 8, 9, 10, 11, 12, 13, 14, 15, 16, 17, 18] rfl
  refine lt_cR (va_runV (As := []) (rest := []) ⟨hx, hb, hml, hown, hts⟩ (c_X6_leavesOnRight l D yI yC yO B i a ) (cwV 0 hts gX6_openOnRight_X6_leavesOnRight rfl rfl rfl (by decide +kernel) ⟨Nat.le_of_ble_eq_true rfl, Nat.le_of_ble_eq_true rfl⟩) (lt_pV hK0 hPc (va_recv hK hPc (ci := 6) (q0 := 0) rfl rfl)) rfl rfl hl.1 rfl (lv_room (Nat.le_of_ble_eq_true rfl)) dX6_openOnRight_1 ⟨Nat.zero_le _, Nat.zero_le _⟩) (fun r_1 e_r_1 => ?_)
  refine lv_if_le (tgt := 16) hx hb dX6_openOnRight_4 (by decide) (fun c_4 => ?_) (fun c_4 => ?_)
  · refine lv_bipush (v := (-5)) hx hb dX6_openOnRight_16 (by decide) ?_
    exact W.iret (v := (-5)) hx hb hret (fun t ht hW => ⟨(-5), rfl, (by subst e_r_1; exact (Eq.symm (Eq.trans (if_pos c_4) rfl))), ht⟩) (fun _ h => absurd h List.not_mem_nil) dX6_openOnRight_18
  · refine lv_iconst (v := 2) hx hb dX6_openOnRight_7 (by decide) ?_
    refine lv_aload_n hx hb dX6_openOnRight_8 rfl (lv_at hl 0 rfl) ?_
    refine va_get (D := D) (ci := 6) (v := .int (i 1)) (C := RX6) (T := TX6) (N := 10) hx hb hts iw_X6_openOnRight_6 hown hK hP 0 rfl rfl 3 (by decide) (hts (.fieldLink RX6 56 "LeafTurner$State" "left" "I") (by decide +kernel)) (fun _ h9 => h9) rfl dX6_openOnRight_9 ?_
    refine lv_imul hx hb dX6_openOnRight_12 ?_
    refine lv_goto (tgt := 18) hx hb dX6_openOnRight_13 (by decide) ?_
    exact W.iret (v := (2 * (i 1))) hx hb hret (fun t ht hW => ⟨(2 * (i 1)), rfl, (by subst e_r_1; exact (Eq.symm (Eq.trans (if_neg c_4) rfl))), ht⟩) (fun _ h => absurd h List.not_mem_nil) dX6_openOnRight_18

def X6_liftedBy_L10 (i : Nat → Int32) (a : Nat → Nat → Int32) (p0 : Int32) : Nat → (Int32) → (Int32) → (Int32) → Int32
  | 0, _, _, _ => 0
  | fu + 1, v2, v3, v4 =>
    if (i 0) ≤ v4 then
      v2
    else
      let r_32 := X3_at 30 (a 0) v4
      if (v3 + r_32) ≤ p0 then
        if v2 ≤ 0 then
          X6_liftedBy_L10 i a p0 fu (v2 + 1) (v3 + r_32) (v4 + 1)
        else
          let r_64 := X3_at 30 (a 1) (v4 - 1)
          if (p0 - v3) < r_64 then
            X6_liftedBy_L10 i a p0 fu (v2 + 1) (v3 + r_32) (v4 + 1)
          else
            v2
      else
        v2
def X6_liftedBy (i : Nat → Int32) (a : Nat → Nat → Int32) (p0 : Int32) : Int32 :=
  X6_liftedBy_L10 i a p0 (((i 0 : Int32).toInt - ((i 1) : Int32).toInt).toNat + 1) 0 0 (i 1)
theorem iw_X6_liftedBy_6 : ∀ w ∈ wsX60, w ∈ wsX6_liftedBy := by decide +kernel
theorem iw_X6_liftedBy_0 : ∀ w ∈ wsX00, w ∈ wsX6_liftedBy := by decide +kernel
set_option maxHeartbeats 4000000 in
set_option maxRecDepth 100000 in
theorem c_X6_liftedBy (l : Launch) (D : va_G) (yI yC yO : ClassId) (B : Nat → Nat) (i : Nat → Int32) (a : Nat → Nat → Int32) (p0 : Int32) : Met l yX6_liftedBy wsX6_liftedBy ({ frames := 2, cells := 0, slots := 0, locals := 60 }) (va_Pc [.ref (B 0), .int p0] (lt_R D yI yC yO (lt_St yI B i a))) (lt_Si (X6_liftedBy i a p0)) 0 0 (fun _ => False) := by
  refine Met.ofW (cc := cX6_liftedBy) (maxL := 6) (ret := (some .int)) (by decide) rfl ?_
  intro p e s m args below meth c s₁ B0 hml hv
  obtain ⟨rfl, hP, hK0⟩ := hv
  have hx := B0.exec
  have hb := B0.bytes
  have hret := B0.returns
  have hts := atoms_spec (ws := wsX6_liftedBy) B0.pre
  have hown : s.vm.findClass RX6 = some m.cls := findClass_of_methodNamed B0.named
  have hlocks := B0.notSynchronized
  have hK := hK0.1
  have hN := hK0.2
  have hP : va_P D vwCl (lt_St yI B i a) s.heap := hP
  have hl := lv_entry ([.ref (B 0), .int p0]) (n := 6) (Nat.le_of_ble_eq_true rfl)
  rw [lg_entry_eq]
  generalize (lg_sl ([.ref (B 0), .int p0]) ++ List.replicate (6 - (lg_sl ([.ref (B 0), .int p0])).length) Slot.unset).toArray = ls at hl ⊢
  have hl : lv_has ls 6 [(0, .ref (B 0)), (1, .int p0)] := hl
  refine lv_iconst (v := 0) hx hb dX6_liftedBy_0 (by decide) ?_
  refine lv_istore_n (lv' := [(2, .int 0), (0, .ref (B 0)), (1, .int p0)]) hx hb dX6_liftedBy_1 rfl hl (by decide) rfl (fun ls hl => ?_)
  refine lv_iconst (v := 0) hx hb dX6_liftedBy_2 (by decide) ?_
  refine lv_istore_n (lv' := [(3, .int 0), (2, .int 0), (0, .ref (B 0)), (1, .int p0)]) hx hb dX6_liftedBy_3 rfl hl (by decide) rfl (fun ls hl => ?_)
  refine lv_aload_n hx hb dX6_liftedBy_4 rfl (lv_at hl 2 rfl) ?_
  refine va_get (D := D) (ci := 6) (v := .int (i 1)) (C := RX6) (T := TX6) (N := 10) hx hb hts iw_X6_liftedBy_6 hown hK hP 0 rfl rfl 3 (by decide) (hts (.fieldLink RX6 56 "LeafTurner$State" "left" "I") (by decide +kernel)) (fun _ h9 => h9) rfl dX6_liftedBy_5 ?_
  refine lv_istore (lv' := [(4, .int (i 1)), (3, .int 0), (2, .int 0), (0, .ref (B 0)), (1, .int p0)]) hx hb dX6_liftedBy_8 hl (by decide) rfl (fun ls hl => ?_)
  refine lt_loop (σ := (Int32) × (Int32) × (Int32)) (fun fu (x : (Int32) × (Int32) × (Int32)) H locs ls => ∃ (v2 : Int32) (v3 : Int32) (v4 : Int32), x = (v2, v3, v4) ∧ lt_fu fu (i 0) (v4) ∧ X6_liftedBy_L10 i a p0 fu v2 v3 v4 = X6_liftedBy i a p0 ∧ H = s.heap ∧ locs = [] ∧ lv_has ls 6 [(4, .int v4), (3, .int v3), (2, .int v2), (0, .ref (B 0)), (1, .int p0)]) ?_ ?_ (((i 0 : Int32).toInt - ((i 1) : Int32).toInt).toNat + 1) (0, 0, (i 1)) _ _ _ ⟨0, 0, (i 1), rfl, lt_fuI _ _, (Eq.symm rfl), rfl, rfl, (lv_sub hl [0, 1, 2, 3, 4] rfl)⟩
  · rintro x H locs ls ⟨_, _, _, -, hF, -⟩
    exact lt_fu0 hF
  · rintro fu ih x H locs ls ⟨v2, v3, v4, rfl, hF, hT, rfl, rfl, hl⟩
    refine lv_iload hx hb dX6_liftedBy_10 (lv_at hl 0 rfl) ?_
    refine lv_aload_n hx hb dX6_liftedBy_12 rfl (lv_at hl 3 rfl) ?_
    refine va_get (D := D) (ci := 6) (v := .ref (B 1)) (C := RX6) (T := TX6) (N := 10) hx hb hts iw_X6_liftedBy_6 hown hK hP 0 rfl rfl 0 (by decide) (hts (.fieldLink RX6 12 "LeafTurner$State" "book" "LLeafTurner$Book;") (by decide +kernel)) (fun _ h9 => h9) rfl dX6_liftedBy_13 ?_
    refine va_getN (D := D) (ci := 0) (v := .int (i 0)) (C := RX0) (T := TX0) (N := 4) hx hb hts iw_X6_liftedBy_0 hown hK hP 1 rfl rfl 3 (by decide) (va_Nw.use rfl (hN _ lt_nw8)) (fun _ h9 => h9) rfl dX6_liftedBy_16 ?_
    refine lv_icmp_ge (tgt := 84) hx hb dX6_liftedBy_19 (by decide) (fun c_19 => ?_) (fun c_19 => ?_)
    · refine lv_iload_n hx hb dX6_liftedBy_84 rfl (lv_at hl 2 rfl) ?_
      exact W.iret (v := v2) hx hb hret (fun t ht hW => ⟨v2, rfl, (Eq.trans (Eq.symm (Eq.trans (if_pos c_19) rfl)) hT), ht⟩) (fun _ h => absurd h List.not_mem_nil) dX6_liftedBy_85
    · refine lv_iload_n hx hb dX6_liftedBy_22 rfl (lv_at hl 1 rfl) ?_
      refine lv_aload_n hx hb dX6_liftedBy_23 rfl (lv_at hl 3 rfl) ?_
      refine va_get (D := D) (ci := 6) (v := .ref (B 1)) (C := RX6) (T := TX6) (N := 10) hx hb hts iw_X6_liftedBy_6 hown hK hP 0 rfl rfl 0 (by decide) (hts (.fieldLink RX6 12 "LeafTurner$State" "book" "LLeafTurner$Book;") (by decide +kernel)) (fun _ h9 => h9) rfl dX6_liftedBy_24 ?_
      refine va_getN (D := D) (ci := 0) (v := .ref (B 2)) (C := RX0) (T := TX0) (N := 4) hx hb hts iw_X6_liftedBy_0 hown hK hP 1 rfl rfl 0 (by decide) (va_Nw.use rfl (hN _ lt_nw0)) (fun _ h9 => h9) rfl dX6_liftedBy_27 ?_
      refine lv_iload hx hb dX6_liftedBy_30 (lv_at hl 0 rfl) ?_
      have hPc := hP.sub (ws' := lt_N2 yI (B 2) (B 3) 30 (a 0)) [2, 3] rfl
      refine lt_cR (va_runV (As := [.int v4]) (rest := [.int v3]) ⟨hx, hb, hml, hown, hts⟩ (c_X3_at l D yI yC yO (B 2) (B 3) 30 (a 0) v4 (by decide)) (cwV 1 hts gX6_liftedBy_X3_at rfl rfl rfl (by decide +kernel) ⟨Nat.le_of_ble_eq_true rfl, Nat.le_of_ble_eq_true rfl⟩) (lt_pV hK0 hPc (va_recv hK hPc (ci := 3) (q0 := 0) rfl rfl)) rfl rfl hl.1 rfl (lv_room (Nat.le_of_ble_eq_true rfl)) dX6_liftedBy_32 ⟨Nat.zero_le _, Nat.zero_le _⟩) (fun r_32 e_r_32 => ?_)
      refine lv_iadd hx hb dX6_liftedBy_35 ?_
      refine lv_istore (lv' := [(5, .int (v3 + r_32)), (4, .int v4), (3, .int v3), (2, .int v2), (0, .ref (B 0)), (1, .int p0)]) hx hb dX6_liftedBy_36 hl (by decide) rfl (fun ls hl => ?_)
      refine lv_iload_n hx hb dX6_liftedBy_38 rfl (lv_at hl 5 rfl) ?_
      refine lv_iload hx hb dX6_liftedBy_39 (lv_at hl 0 rfl) ?_
      refine lv_icmp_ge (tgt := 46) hx hb dX6_liftedBy_41 (by decide) (fun c_41 => ?_) (fun c_41 => ?_)
      · refine lv_iload_n hx hb dX6_liftedBy_46 rfl (lv_at hl 3 rfl) ?_
        refine lv_if_le (tgt := 72) hx hb dX6_liftedBy_47 (by decide) (fun c_47 => ?_) (fun c_47 => ?_)
        · refine lv_iload hx hb dX6_liftedBy_72 (lv_at hl 0 rfl) ?_
          refine lv_istore_n (lv' := [(3, .int (v3 + r_32)), (5, .int (v3 + r_32)), (4, .int v4), (2, .int v2), (0, .ref (B 0)), (1, .int p0)]) hx hb dX6_liftedBy_74 rfl hl (by decide) rfl (fun ls hl => ?_)
          refine lv_iinc (v := (v2 + 1)) (lv' := [(2, .int (v2 + 1)), (3, .int (v3 + r_32)), (5, .int (v3 + r_32)), (4, .int v4), (0, .ref (B 0)), (1, .int p0)]) hx hb dX6_liftedBy_75 hl (k := 3) rfl (rfl) (by decide) rfl (fun ls hl => ?_)
          refine lv_iinc (v := (v4 + 1)) (lv' := [(4, .int (v4 + 1)), (2, .int (v2 + 1)), (3, .int (v3 + r_32)), (5, .int (v3 + r_32)), (0, .ref (B 0)), (1, .int p0)]) hx hb dX6_liftedBy_78 hl (k := 3) rfl (rfl) (by decide) rfl (fun ls hl => ?_)
          refine lv_goto (tgt := 10) hx hb dX6_liftedBy_81 (by decide) ?_
          exact ih ((v2 + 1), (v3 + r_32), (v4 + 1)) _ _ _ ⟨(v2 + 1), (v3 + r_32), (v4 + 1), rfl, lt_fuS hF (lt_nle c_19), (by subst e_r_32; exact (Eq.trans (Eq.symm (Eq.trans (if_neg c_19) (Eq.trans (if_pos c_41) (Eq.trans (if_pos c_47) rfl)))) hT)), rfl, rfl, lv_sub hl [0, 2, 1, 4, 5] rfl⟩
        · refine lv_iload_n hx hb dX6_liftedBy_50 rfl (lv_at hl 5 rfl) ?_
          refine lv_iload_n hx hb dX6_liftedBy_51 rfl (lv_at hl 2 rfl) ?_
          refine lv_isub hx hb dX6_liftedBy_52 ?_
          refine lv_aload_n hx hb dX6_liftedBy_53 rfl (lv_at hl 4 rfl) ?_
          refine va_get (D := D) (ci := 6) (v := .ref (B 1)) (C := RX6) (T := TX6) (N := 10) hx hb hts iw_X6_liftedBy_6 hown hK hP 0 rfl rfl 0 (by decide) (hts (.fieldLink RX6 12 "LeafTurner$State" "book" "LLeafTurner$Book;") (by decide +kernel)) (fun _ h9 => h9) rfl dX6_liftedBy_54 ?_
          refine va_getN (D := D) (ci := 0) (v := .ref (B 4)) (C := RX0) (T := TX0) (N := 4) hx hb hts iw_X6_liftedBy_0 hown hK hP 1 rfl rfl 1 (by decide) (va_Nw.use rfl (hN _ lt_nw2)) (fun _ h9 => h9) rfl dX6_liftedBy_57 ?_
          refine lv_iload hx hb dX6_liftedBy_60 (lv_at hl 1 rfl) ?_
          refine lv_iconst (v := 1) hx hb dX6_liftedBy_62 (by decide) ?_
          refine lv_isub hx hb dX6_liftedBy_63 ?_
          have hPc := hP.sub (ws' := lt_N2 yI (B 4) (B 5) 30 (a 1)) [4, 5] rfl
          refine lt_cR (va_runV (As := [.int (v4 - 1)]) (rest := [.int (p0 - v3)]) ⟨hx, hb, hml, hown, hts⟩ (c_X3_at l D yI yC yO (B 4) (B 5) 30 (a 1) (v4 - 1) (by decide)) (cwV 1 hts gX6_liftedBy_X3_at rfl rfl rfl (by decide +kernel) ⟨Nat.le_of_ble_eq_true rfl, Nat.le_of_ble_eq_true rfl⟩) (lt_pV hK0 hPc (va_recv hK hPc (ci := 3) (q0 := 0) rfl rfl)) rfl rfl hl.1 rfl (lv_room (Nat.le_of_ble_eq_true rfl)) dX6_liftedBy_64 ⟨Nat.zero_le _, Nat.zero_le _⟩) (fun r_64 e_r_64 => ?_)
          refine lv_icmp_lt (tgt := 72) hx hb dX6_liftedBy_67 (by decide) (fun c_67 => ?_) (fun c_67 => ?_)
          · refine lv_iload hx hb dX6_liftedBy_72 (lv_at hl 0 rfl) ?_
            refine lv_istore_n (lv' := [(3, .int (v3 + r_32)), (5, .int (v3 + r_32)), (4, .int v4), (2, .int v2), (0, .ref (B 0)), (1, .int p0)]) hx hb dX6_liftedBy_74 rfl hl (by decide) rfl (fun ls hl => ?_)
            refine lv_iinc (v := (v2 + 1)) (lv' := [(2, .int (v2 + 1)), (3, .int (v3 + r_32)), (5, .int (v3 + r_32)), (4, .int v4), (0, .ref (B 0)), (1, .int p0)]) hx hb dX6_liftedBy_75 hl (k := 3) rfl (rfl) (by decide) rfl (fun ls hl => ?_)
            refine lv_iinc (v := (v4 + 1)) (lv' := [(4, .int (v4 + 1)), (2, .int (v2 + 1)), (3, .int (v3 + r_32)), (5, .int (v3 + r_32)), (0, .ref (B 0)), (1, .int p0)]) hx hb dX6_liftedBy_78 hl (k := 3) rfl (rfl) (by decide) rfl (fun ls hl => ?_)
            refine lv_goto (tgt := 10) hx hb dX6_liftedBy_81 (by decide) ?_
            exact ih ((v2 + 1), (v3 + r_32), (v4 + 1)) _ _ _ ⟨(v2 + 1), (v3 + r_32), (v4 + 1), rfl, lt_fuS hF (lt_nle c_19), (by subst e_r_64 e_r_32; exact (Eq.trans (Eq.symm (Eq.trans (if_neg c_19) (Eq.trans (if_pos c_41) (Eq.trans (if_neg c_47) (Eq.trans (if_pos c_67) rfl))))) hT)), rfl, rfl, lv_sub hl [0, 2, 1, 4, 5] rfl⟩
          · refine lv_iload_n hx hb dX6_liftedBy_70 rfl (lv_at hl 3 rfl) ?_
            exact W.iret (v := v2) hx hb hret (fun t ht hW => ⟨v2, rfl, (by subst e_r_64 e_r_32; exact (Eq.trans (Eq.symm (Eq.trans (if_neg c_19) (Eq.trans (if_pos c_41) (Eq.trans (if_neg c_47) (Eq.trans (if_neg c_67) rfl))))) hT)), ht⟩) (fun _ h => absurd h List.not_mem_nil) dX6_liftedBy_71
      · refine lv_iload_n hx hb dX6_liftedBy_44 rfl (lv_at hl 3 rfl) ?_
        exact W.iret (v := v2) hx hb hret (fun t ht hW => ⟨v2, rfl, (by subst e_r_32; exact (Eq.trans (Eq.symm (Eq.trans (if_neg c_19) (Eq.trans (if_neg c_41) rfl))) hT)), ht⟩) (fun _ h => absurd h List.not_mem_nil) dX6_liftedBy_45

def X6_learnFrom (i : Nat → Int32) (a : Nat → Nat → Int32) (p0 : Int32) : (Nat → Int32) :=
  if p0 = 0 then
    if p0 = 1 then
      if ((i 7) + 1) = 5 then
        let r_55 := X3_at 3 (a 7) 1
        if r_55 = 1 then
          let k_72 := (if ((i 8) + (-1)) < 20 then ((i 8) + (-1)) else 20 : Int32)
          let k_75 := (if 1 < k_72 then k_72 else 1 : Int32)
          ((upd (upd i 7 0) 8 k_75))
        else
          ((upd i 7 0))
      else
        let r_55 := X3_at 3 (a 7) 1
        if r_55 = 1 then
          let k_72 := (if ((i 8) + 0) < 20 then ((i 8) + 0) else 20 : Int32)
          let k_75 := (if 1 < k_72 then k_72 else 1 : Int32)
          ((upd (upd i 7 ((i 7) + 1)) 8 k_75))
        else
          ((upd i 7 ((i 7) + 1)))
    else
      let r_55 := X3_at 3 (a 7) 1
      if r_55 = 1 then
        let k_72 := (if ((i 8) + 2) < 20 then ((i 8) + 2) else 20 : Int32)
        let k_75 := (if 1 < k_72 then k_72 else 1 : Int32)
        ((upd (upd i 7 0) 8 k_75))
      else
        ((upd i 7 0))
  else
    if p0 = 1 then
      if ((i 7) + 1) = 5 then
        let r_55 := X3_at 3 (a 7) 1
        if r_55 = 1 then
          let k_72 := (if ((i 8) + (-1)) < 20 then ((i 8) + (-1)) else 20 : Int32)
          let k_75 := (if 1 < k_72 then k_72 else 1 : Int32)
          ((upd (upd i 7 0) 8 k_75))
        else
          ((upd i 7 0))
      else
        let r_55 := X3_at 3 (a 7) 1
        if r_55 = 1 then
          let k_72 := (if ((i 8) + 0) < 20 then ((i 8) + 0) else 20 : Int32)
          let k_75 := (if 1 < k_72 then k_72 else 1 : Int32)
          ((upd (upd i 7 ((i 7) + 1)) 8 k_75))
        else
          ((upd i 7 ((i 7) + 1)))
    else
      let r_55 := X3_at 3 (a 7) 1
      if r_55 = 1 then
        let k_72 := (if ((i 8) + 1) < 20 then ((i 8) + 1) else 20 : Int32)
        let k_75 := (if 1 < k_72 then k_72 else 1 : Int32)
        ((upd (upd i 7 0) 8 k_75))
      else
        ((upd i 7 0))
theorem iw_X6_learnFrom_6 : ∀ w ∈ wsX60, w ∈ wsX6_learnFrom := by decide +kernel
set_option maxHeartbeats 4000000 in
set_option maxRecDepth 100000 in
theorem c_X6_learnFrom (l : Launch) (D : va_G) (yI yC yO : ClassId) (B : Nat → Nat) (i : Nat → Int32) (a : Nat → Nat → Int32) (p0 : Int32) (sz : Nat) : Met l yX6_learnFrom wsX6_learnFrom ({ frames := 2, cells := 0, slots := 0, locals := 60 }) (va_Pc [.ref (B 0), .int p0] (lt_M D yI yC yO (lt_St yI B i a) sz)) (lt_Qv D (X6_learnFrom i a p0) (fun u => lt_St yI B u a) (va_A (lt_St yI B i a) sz)) 0 0 (va_A (lt_St yI B i a) sz) := by
  refine Met.ofW (cc := cX6_learnFrom) (maxL := 3) (ret := none) (by decide) rfl ?_
  intro p e s m args below meth c s₁ B0 hml hv
  obtain ⟨rfl, hsz, hP, hK0, hD0⟩ := hv
  have hx := B0.exec
  have hb := B0.bytes
  have hret := B0.returns
  have hts := atoms_spec (ws := wsX6_learnFrom) B0.pre
  have hown : s.vm.findClass RX6 = some m.cls := findClass_of_methodNamed B0.named
  have hlocks := B0.notSynchronized
  have hK := hK0.1
  have hN := hK0.2
  subst hsz
  have hD := hD0.self (sz := s.heap.size)
  generalize hAe : va_A (lt_St yI B i a) s.heap.size = A at hD ⊢
  have hA : ∀ q : Nat, s.heap.size ≤ q → A q := fun q h => by rw [← hAe]; exact Or.inr h
  have hS : va_S A s.heap s.heap [] := va_S.rf
  have hP : va_P D vwCl (lt_St yI B i a) s.heap := hP
  have hD : va_D A (lt_St yI B i a) := hD
  have hl := lv_entry ([.ref (B 0), .int p0]) (n := 3) (Nat.le_of_ble_eq_true rfl)
  rw [lg_entry_eq]
  generalize (lg_sl ([.ref (B 0), .int p0]) ++ List.replicate (3 - (lg_sl ([.ref (B 0), .int p0])).length) Slot.unset).toArray = ls at hl ⊢
  have hl : lv_has ls 3 [(0, .ref (B 0)), (1, .int p0)] := hl
  refine lv_iload_n hx hb dX6_learnFrom_0 rfl (lv_at hl 1 rfl) ?_
  refine lv_if_ne (tgt := 8) hx hb dX6_learnFrom_1 (by decide) (fun c_1 => ?_) (fun c_1 => ?_)
  · refine lv_iconst (v := 1) hx hb dX6_learnFrom_8 (by decide) ?_
    refine lv_istore_n (lv' := [(2, .int 1), (0, .ref (B 0)), (1, .int p0)]) hx hb dX6_learnFrom_9 rfl hl (by decide) rfl (fun ls hl => ?_)
    refine lv_iload_n hx hb dX6_learnFrom_10 rfl (lv_at hl 2 rfl) ?_
    refine lv_iconst (v := 1) hx hb dX6_learnFrom_11 (by decide) ?_
    refine lv_icmp_ne (tgt := 45) hx hb dX6_learnFrom_12 (by decide) (fun c_12 => ?_) (fun c_12 => ?_)
    · refine lv_aload_n hx hb dX6_learnFrom_45 rfl (lv_at hl 1 rfl) ?_
      refine lv_iconst (v := 0) hx hb dX6_learnFrom_46 (by decide) ?_
      refine va_put (D := D) (ci := 6) (v := .int 0) (ty := .int) (C := RX6) (T := TX6) (N := 10) hx hb hts iw_X6_learnFrom_6 tyX6 tyX6_ok nmX6 hown hK hP hD hS 0 rfl rfl 8 (by decide) (hts (.fieldLink RX6 68 "LeafTurner$State" "singlesInRow" "I") (by decide +kernel)) (fun _ h9 => h9) rfl (by decide +kernel) rfl rfl (Nat.le_of_ble_eq_true rfl) dX6_learnFrom_47 (fun H locs hP hD hS => ?_)
      have hP : va_P D vwCl (lt_St yI B (upd i 7 0) a) H := hP
      have hD : va_D A (lt_St yI B (upd i 7 0) a) := hD
      refine lv_aload_n hx hb dX6_learnFrom_50 rfl (lv_at hl 1 rfl) ?_
      refine va_get (D := D) (ci := 6) (v := .ref (B 17)) (C := RX6) (T := TX6) (N := 10) hx hb hts iw_X6_learnFrom_6 hown hK hP 0 rfl rfl 2 (by decide) (hts (.fieldLink RX6 34 "LeafTurner$State" "settings" "LLeafTurner$Numbers;") (by decide +kernel)) (fun _ h9 => h9) rfl dX6_learnFrom_51 ?_
      refine lv_iconst (v := 1) hx hb dX6_learnFrom_54 (by decide) ?_
      have hPc := hP.sub (ws' := lt_N2 yI (B 17) (B 18) 3 (a 7)) [17, 18] rfl
      refine lt_cR (va_runV (As := [.int 1]) (rest := []) ⟨hx, hb, hml, hown, hts⟩ (c_X3_at l D yI yC yO (B 17) (B 18) 3 (a 7) 1 (by decide)) (cwV 1 hts gX6_learnFrom_X3_at rfl rfl rfl (by decide +kernel) ⟨Nat.le_of_ble_eq_true rfl, Nat.le_of_ble_eq_true rfl⟩) (lt_pV hK0 hPc (va_recv hK hPc (ci := 3) (q0 := 0) rfl rfl)) rfl rfl hl.1 rfl (lv_room (Nat.le_of_ble_eq_true rfl)) dX6_learnFrom_55 ⟨Nat.zero_le _, Nat.zero_le _⟩) (fun r_55 e_r_55 => ?_)
      refine lv_iconst (v := 1) hx hb dX6_learnFrom_58 (by decide) ?_
      refine lv_icmp_ne (tgt := 81) hx hb dX6_learnFrom_59 (by decide) (fun c_59 => ?_) (fun c_59 => ?_)
      · exact W.vret hx hb hret (fun t ht hW => ⟨⟨((upd i 7 0)), rfl, (by subst e_r_55; exact (Eq.symm (Eq.trans (if_neg c_1) (Eq.trans (if_neg c_12) (Eq.trans (if_neg c_59) rfl))))), by rw [ht]; exact hP, hD⟩, hS.F ht⟩) hS.2.2 dX6_learnFrom_81
      · refine lv_aload_n hx hb dX6_learnFrom_62 rfl (lv_at hl 1 rfl) ?_
        refine lv_iconst (v := 1) hx hb dX6_learnFrom_63 (by decide) ?_
        refine lv_bipush (v := 20) hx hb dX6_learnFrom_64 (by decide) ?_
        refine lv_aload_n hx hb dX6_learnFrom_66 rfl (lv_at hl 1 rfl) ?_
        refine va_get (D := D) (ci := 6) (v := .int (i 8)) (C := RX6) (T := TX6) (N := 10) hx hb hts iw_X6_learnFrom_6 hown hK hP 0 rfl rfl 4 (by decide) (hts (.fieldLink RX6 42 "LeafTurner$State" "suction" "I") (by decide +kernel)) (fun _ h9 => h9) rfl dX6_learnFrom_67 ?_
        refine lv_iload_n hx hb dX6_learnFrom_70 rfl (lv_at hl 0 rfl) ?_
        refine lv_iadd hx hb dX6_learnFrom_71 ?_
        refine va_mmin hx hb (hml.trans hl.1.symm) hown (hts (.methodLink RX6 100 Lib.Math.min.name) (by decide +kernel)) (hts (.static Lib.Math.min.name) (by decide +kernel)) (hts (.initialized "java/lang/Math") (by decide +kernel)) (hts (.code Lib.Math.min.name Lib.Math.min.code 2 (some .int)) (by decide +kernel)) (Nat.le_of_ble_eq_true rfl) (Nat.le_of_ble_eq_true rfl) (Nat.zero_le _) (Nat.zero_le _) dX6_learnFrom_72 ?_
        refine lv_topi (fun k_72 e_k_72 => ?_)
        refine va_mmax hx hb (hml.trans hl.1.symm) hown (hts (.methodLink RX6 106 Lib.Math.max.name) (by decide +kernel)) (hts (.static Lib.Math.max.name) (by decide +kernel)) (hts (.initialized "java/lang/Math") (by decide +kernel)) (hts (.code Lib.Math.max.name Lib.Math.max.code 2 (some .int)) (by decide +kernel)) (Nat.le_of_ble_eq_true rfl) (Nat.le_of_ble_eq_true rfl) (Nat.zero_le _) (Nat.zero_le _) dX6_learnFrom_75 ?_
        refine lv_topi (fun k_75 e_k_75 => ?_)
        refine va_put (D := D) (ci := 6) (v := .int k_75) (ty := .int) (C := RX6) (T := TX6) (N := 10) hx hb hts iw_X6_learnFrom_6 tyX6 tyX6_ok nmX6 hown hK hP hD hS 0 rfl rfl 4 (by decide) (hts (.fieldLink RX6 42 "LeafTurner$State" "suction" "I") (by decide +kernel)) (fun _ h9 => h9) rfl (by decide +kernel) rfl rfl (Nat.le_of_ble_eq_true rfl) dX6_learnFrom_78 (fun H locs hP hD hS => ?_)
        have hP : va_P D vwCl (lt_St yI B (upd (upd i 7 0) 8 k_75) a) H := hP
        have hD : va_D A (lt_St yI B (upd (upd i 7 0) 8 k_75) a) := hD
        exact W.vret hx hb hret (fun t ht hW => ⟨⟨((upd (upd i 7 0) 8 k_75)), rfl, (by rw [e_k_75, e_k_72]; subst e_r_55; unfold X6_learnFrom; rw [if_neg c_1, if_neg c_12]; exact (if_pos c_59).symm), by rw [ht]; exact hP, hD⟩, hS.F ht⟩) hS.2.2 dX6_learnFrom_81
    · refine lv_iconst (v := 0) hx hb dX6_learnFrom_15 (by decide) ?_
      refine lv_istore_n (lv' := [(2, .int 0), (0, .ref (B 0)), (1, .int p0)]) hx hb dX6_learnFrom_16 rfl hl (by decide) rfl (fun ls hl => ?_)
      refine lv_aload_n hx hb dX6_learnFrom_17 rfl (lv_at hl 1 rfl) ?_
      refine lv_dup hx hb dX6_learnFrom_18 rfl ?_
      refine va_get (D := D) (ci := 6) (v := .int (i 7)) (C := RX6) (T := TX6) (N := 10) hx hb hts iw_X6_learnFrom_6 hown hK hP 0 rfl rfl 8 (by decide) (hts (.fieldLink RX6 68 "LeafTurner$State" "singlesInRow" "I") (by decide +kernel)) (fun _ h9 => h9) rfl dX6_learnFrom_19 ?_
      refine lv_iconst (v := 1) hx hb dX6_learnFrom_22 (by decide) ?_
      refine lv_iadd hx hb dX6_learnFrom_23 ?_
      refine va_put (D := D) (ci := 6) (v := .int ((i 7) + 1)) (ty := .int) (C := RX6) (T := TX6) (N := 10) hx hb hts iw_X6_learnFrom_6 tyX6 tyX6_ok nmX6 hown hK hP hD hS 0 rfl rfl 8 (by decide) (hts (.fieldLink RX6 68 "LeafTurner$State" "singlesInRow" "I") (by decide +kernel)) (fun _ h9 => h9) rfl (by decide +kernel) rfl rfl (Nat.le_of_ble_eq_true rfl) dX6_learnFrom_24 (fun H locs hP hD hS => ?_)
      have hP : va_P D vwCl (lt_St yI B (upd i 7 ((i 7) + 1)) a) H := hP
      have hD : va_D A (lt_St yI B (upd i 7 ((i 7) + 1)) a) := hD
      refine lv_aload_n hx hb dX6_learnFrom_27 rfl (lv_at hl 1 rfl) ?_
      refine va_get (D := D) (ci := 6) (v := .int ((i 7) + 1)) (C := RX6) (T := TX6) (N := 10) hx hb hts iw_X6_learnFrom_6 hown hK hP 0 rfl rfl 8 (by decide) (hts (.fieldLink RX6 68 "LeafTurner$State" "singlesInRow" "I") (by decide +kernel)) (fun _ h9 => h9) rfl dX6_learnFrom_28 ?_
      refine lv_iconst (v := 5) hx hb dX6_learnFrom_31 (by decide) ?_
      refine lv_icmp_ne (tgt := 50) hx hb dX6_learnFrom_32 (by decide) (fun c_32 => ?_) (fun c_32 => ?_)
      · refine lv_aload_n hx hb dX6_learnFrom_50 rfl (lv_at hl 1 rfl) ?_
        refine va_get (D := D) (ci := 6) (v := .ref (B 17)) (C := RX6) (T := TX6) (N := 10) hx hb hts iw_X6_learnFrom_6 hown hK hP 0 rfl rfl 2 (by decide) (hts (.fieldLink RX6 34 "LeafTurner$State" "settings" "LLeafTurner$Numbers;") (by decide +kernel)) (fun _ h9 => h9) rfl dX6_learnFrom_51 ?_
        refine lv_iconst (v := 1) hx hb dX6_learnFrom_54 (by decide) ?_
        have hPc := hP.sub (ws' := lt_N2 yI (B 17) (B 18) 3 (a 7)) [17, 18] rfl
        refine lt_cR (va_runV (As := [.int 1]) (rest := []) ⟨hx, hb, hml, hown, hts⟩ (c_X3_at l D yI yC yO (B 17) (B 18) 3 (a 7) 1 (by decide)) (cwV 1 hts gX6_learnFrom_X3_at rfl rfl rfl (by decide +kernel) ⟨Nat.le_of_ble_eq_true rfl, Nat.le_of_ble_eq_true rfl⟩) (lt_pV hK0 hPc (va_recv hK hPc (ci := 3) (q0 := 0) rfl rfl)) rfl rfl hl.1 rfl (lv_room (Nat.le_of_ble_eq_true rfl)) dX6_learnFrom_55 ⟨Nat.zero_le _, Nat.zero_le _⟩) (fun r_55 e_r_55 => ?_)
        refine lv_iconst (v := 1) hx hb dX6_learnFrom_58 (by decide) ?_
        refine lv_icmp_ne (tgt := 81) hx hb dX6_learnFrom_59 (by decide) (fun c_59 => ?_) (fun c_59 => ?_)
        · exact W.vret hx hb hret (fun t ht hW => ⟨⟨((upd i 7 ((i 7) + 1))), rfl, (by subst e_r_55; exact (Eq.symm (Eq.trans (if_neg c_1) (Eq.trans (if_pos c_12) (Eq.trans (if_neg c_32) (Eq.trans (if_neg c_59) rfl)))))), by rw [ht]; exact hP, hD⟩, hS.F ht⟩) hS.2.2 dX6_learnFrom_81
        · refine lv_aload_n hx hb dX6_learnFrom_62 rfl (lv_at hl 1 rfl) ?_
          refine lv_iconst (v := 1) hx hb dX6_learnFrom_63 (by decide) ?_
          refine lv_bipush (v := 20) hx hb dX6_learnFrom_64 (by decide) ?_
          refine lv_aload_n hx hb dX6_learnFrom_66 rfl (lv_at hl 1 rfl) ?_
          refine va_get (D := D) (ci := 6) (v := .int (i 8)) (C := RX6) (T := TX6) (N := 10) hx hb hts iw_X6_learnFrom_6 hown hK hP 0 rfl rfl 4 (by decide) (hts (.fieldLink RX6 42 "LeafTurner$State" "suction" "I") (by decide +kernel)) (fun _ h9 => h9) rfl dX6_learnFrom_67 ?_
          refine lv_iload_n hx hb dX6_learnFrom_70 rfl (lv_at hl 0 rfl) ?_
          refine lv_iadd hx hb dX6_learnFrom_71 ?_
          refine va_mmin hx hb (hml.trans hl.1.symm) hown (hts (.methodLink RX6 100 Lib.Math.min.name) (by decide +kernel)) (hts (.static Lib.Math.min.name) (by decide +kernel)) (hts (.initialized "java/lang/Math") (by decide +kernel)) (hts (.code Lib.Math.min.name Lib.Math.min.code 2 (some .int)) (by decide +kernel)) (Nat.le_of_ble_eq_true rfl) (Nat.le_of_ble_eq_true rfl) (Nat.zero_le _) (Nat.zero_le _) dX6_learnFrom_72 ?_
          refine lv_topi (fun k_72 e_k_72 => ?_)
          refine va_mmax hx hb (hml.trans hl.1.symm) hown (hts (.methodLink RX6 106 Lib.Math.max.name) (by decide +kernel)) (hts (.static Lib.Math.max.name) (by decide +kernel)) (hts (.initialized "java/lang/Math") (by decide +kernel)) (hts (.code Lib.Math.max.name Lib.Math.max.code 2 (some .int)) (by decide +kernel)) (Nat.le_of_ble_eq_true rfl) (Nat.le_of_ble_eq_true rfl) (Nat.zero_le _) (Nat.zero_le _) dX6_learnFrom_75 ?_
          refine lv_topi (fun k_75 e_k_75 => ?_)
          refine va_put (D := D) (ci := 6) (v := .int k_75) (ty := .int) (C := RX6) (T := TX6) (N := 10) hx hb hts iw_X6_learnFrom_6 tyX6 tyX6_ok nmX6 hown hK hP hD hS 0 rfl rfl 4 (by decide) (hts (.fieldLink RX6 42 "LeafTurner$State" "suction" "I") (by decide +kernel)) (fun _ h9 => h9) rfl (by decide +kernel) rfl rfl (Nat.le_of_ble_eq_true rfl) dX6_learnFrom_78 (fun H locs hP hD hS => ?_)
          have hP : va_P D vwCl (lt_St yI B (upd (upd i 7 ((i 7) + 1)) 8 k_75) a) H := hP
          have hD : va_D A (lt_St yI B (upd (upd i 7 ((i 7) + 1)) 8 k_75) a) := hD
          exact W.vret hx hb hret (fun t ht hW => ⟨⟨((upd (upd i 7 ((i 7) + 1)) 8 k_75)), rfl, (by rw [e_k_75, e_k_72]; subst e_r_55; unfold X6_learnFrom; rw [if_neg c_1, if_pos c_12, if_neg c_32]; exact (if_pos c_59).symm), by rw [ht]; exact hP, hD⟩, hS.F ht⟩) hS.2.2 dX6_learnFrom_81
      · refine lv_iconst (v := (-1)) hx hb dX6_learnFrom_35 (by decide) ?_
        refine lv_istore_n (lv' := [(2, .int (-1)), (0, .ref (B 0)), (1, .int p0)]) hx hb dX6_learnFrom_36 rfl hl (by decide) rfl (fun ls hl => ?_)
        refine lv_aload_n hx hb dX6_learnFrom_37 rfl (lv_at hl 1 rfl) ?_
        refine lv_iconst (v := 0) hx hb dX6_learnFrom_38 (by decide) ?_
        refine va_put (D := D) (ci := 6) (v := .int 0) (ty := .int) (C := RX6) (T := TX6) (N := 10) hx hb hts iw_X6_learnFrom_6 tyX6 tyX6_ok nmX6 hown hK hP hD hS 0 rfl rfl 8 (by decide) (hts (.fieldLink RX6 68 "LeafTurner$State" "singlesInRow" "I") (by decide +kernel)) (fun _ h9 => h9) rfl (by decide +kernel) rfl rfl (Nat.le_of_ble_eq_true rfl) dX6_learnFrom_39 (fun H locs hP hD hS => ?_)
        have hP : va_P D vwCl (lt_St yI B (upd i 7 0) a) H := hP
        have hD : va_D A (lt_St yI B (upd i 7 0) a) := hD
        refine lv_goto (tgt := 50) hx hb dX6_learnFrom_42 (by decide) ?_
        refine lv_aload_n hx hb dX6_learnFrom_50 rfl (lv_at hl 1 rfl) ?_
        refine va_get (D := D) (ci := 6) (v := .ref (B 17)) (C := RX6) (T := TX6) (N := 10) hx hb hts iw_X6_learnFrom_6 hown hK hP 0 rfl rfl 2 (by decide) (hts (.fieldLink RX6 34 "LeafTurner$State" "settings" "LLeafTurner$Numbers;") (by decide +kernel)) (fun _ h9 => h9) rfl dX6_learnFrom_51 ?_
        refine lv_iconst (v := 1) hx hb dX6_learnFrom_54 (by decide) ?_
        have hPc := hP.sub (ws' := lt_N2 yI (B 17) (B 18) 3 (a 7)) [17, 18] rfl
        refine lt_cR (va_runV (As := [.int 1]) (rest := []) ⟨hx, hb, hml, hown, hts⟩ (c_X3_at l D yI yC yO (B 17) (B 18) 3 (a 7) 1 (by decide)) (cwV 1 hts gX6_learnFrom_X3_at rfl rfl rfl (by decide +kernel) ⟨Nat.le_of_ble_eq_true rfl, Nat.le_of_ble_eq_true rfl⟩) (lt_pV hK0 hPc (va_recv hK hPc (ci := 3) (q0 := 0) rfl rfl)) rfl rfl hl.1 rfl (lv_room (Nat.le_of_ble_eq_true rfl)) dX6_learnFrom_55 ⟨Nat.zero_le _, Nat.zero_le _⟩) (fun r_55 e_r_55 => ?_)
        refine lv_iconst (v := 1) hx hb dX6_learnFrom_58 (by decide) ?_
        refine lv_icmp_ne (tgt := 81) hx hb dX6_learnFrom_59 (by decide) (fun c_59 => ?_) (fun c_59 => ?_)
        · exact W.vret hx hb hret (fun t ht hW => ⟨⟨((upd i 7 0)), rfl, (by subst e_r_55; exact (Eq.symm (Eq.trans (if_neg c_1) (Eq.trans (if_pos c_12) (Eq.trans (if_pos c_32) (Eq.trans (if_neg c_59) rfl)))))), by rw [ht]; exact hP, hD⟩, hS.F ht⟩) hS.2.2 dX6_learnFrom_81
        · refine lv_aload_n hx hb dX6_learnFrom_62 rfl (lv_at hl 1 rfl) ?_
          refine lv_iconst (v := 1) hx hb dX6_learnFrom_63 (by decide) ?_
          refine lv_bipush (v := 20) hx hb dX6_learnFrom_64 (by decide) ?_
          refine lv_aload_n hx hb dX6_learnFrom_66 rfl (lv_at hl 1 rfl) ?_
          refine va_get (D := D) (ci := 6) (v := .int (i 8)) (C := RX6) (T := TX6) (N := 10) hx hb hts iw_X6_learnFrom_6 hown hK hP 0 rfl rfl 4 (by decide) (hts (.fieldLink RX6 42 "LeafTurner$State" "suction" "I") (by decide +kernel)) (fun _ h9 => h9) rfl dX6_learnFrom_67 ?_
          refine lv_iload_n hx hb dX6_learnFrom_70 rfl (lv_at hl 0 rfl) ?_
          refine lv_iadd hx hb dX6_learnFrom_71 ?_
          refine va_mmin hx hb (hml.trans hl.1.symm) hown (hts (.methodLink RX6 100 Lib.Math.min.name) (by decide +kernel)) (hts (.static Lib.Math.min.name) (by decide +kernel)) (hts (.initialized "java/lang/Math") (by decide +kernel)) (hts (.code Lib.Math.min.name Lib.Math.min.code 2 (some .int)) (by decide +kernel)) (Nat.le_of_ble_eq_true rfl) (Nat.le_of_ble_eq_true rfl) (Nat.zero_le _) (Nat.zero_le _) dX6_learnFrom_72 ?_
          refine lv_topi (fun k_72 e_k_72 => ?_)
          refine va_mmax hx hb (hml.trans hl.1.symm) hown (hts (.methodLink RX6 106 Lib.Math.max.name) (by decide +kernel)) (hts (.static Lib.Math.max.name) (by decide +kernel)) (hts (.initialized "java/lang/Math") (by decide +kernel)) (hts (.code Lib.Math.max.name Lib.Math.max.code 2 (some .int)) (by decide +kernel)) (Nat.le_of_ble_eq_true rfl) (Nat.le_of_ble_eq_true rfl) (Nat.zero_le _) (Nat.zero_le _) dX6_learnFrom_75 ?_
          refine lv_topi (fun k_75 e_k_75 => ?_)
          refine va_put (D := D) (ci := 6) (v := .int k_75) (ty := .int) (C := RX6) (T := TX6) (N := 10) hx hb hts iw_X6_learnFrom_6 tyX6 tyX6_ok nmX6 hown hK hP hD hS 0 rfl rfl 4 (by decide) (hts (.fieldLink RX6 42 "LeafTurner$State" "suction" "I") (by decide +kernel)) (fun _ h9 => h9) rfl (by decide +kernel) rfl rfl (Nat.le_of_ble_eq_true rfl) dX6_learnFrom_78 (fun H locs hP hD hS => ?_)
          have hP : va_P D vwCl (lt_St yI B (upd (upd i 7 0) 8 k_75) a) H := hP
          have hD : va_D A (lt_St yI B (upd (upd i 7 0) 8 k_75) a) := hD
          exact W.vret hx hb hret (fun t ht hW => ⟨⟨((upd (upd i 7 0) 8 k_75)), rfl, (by rw [e_k_75, e_k_72]; subst e_r_55; unfold X6_learnFrom; rw [if_neg c_1, if_pos c_12, if_pos c_32]; exact (if_pos c_59).symm), by rw [ht]; exact hP, hD⟩, hS.F ht⟩) hS.2.2 dX6_learnFrom_81
  · refine lv_iconst (v := 2) hx hb dX6_learnFrom_4 (by decide) ?_
    refine lv_goto (tgt := 9) hx hb dX6_learnFrom_5 (by decide) ?_
    refine lv_istore_n (lv' := [(2, .int 2), (0, .ref (B 0)), (1, .int p0)]) hx hb dX6_learnFrom_9 rfl hl (by decide) rfl (fun ls hl => ?_)
    refine lv_iload_n hx hb dX6_learnFrom_10 rfl (lv_at hl 2 rfl) ?_
    refine lv_iconst (v := 1) hx hb dX6_learnFrom_11 (by decide) ?_
    refine lv_icmp_ne (tgt := 45) hx hb dX6_learnFrom_12 (by decide) (fun c_12 => ?_) (fun c_12 => ?_)
    · refine lv_aload_n hx hb dX6_learnFrom_45 rfl (lv_at hl 1 rfl) ?_
      refine lv_iconst (v := 0) hx hb dX6_learnFrom_46 (by decide) ?_
      refine va_put (D := D) (ci := 6) (v := .int 0) (ty := .int) (C := RX6) (T := TX6) (N := 10) hx hb hts iw_X6_learnFrom_6 tyX6 tyX6_ok nmX6 hown hK hP hD hS 0 rfl rfl 8 (by decide) (hts (.fieldLink RX6 68 "LeafTurner$State" "singlesInRow" "I") (by decide +kernel)) (fun _ h9 => h9) rfl (by decide +kernel) rfl rfl (Nat.le_of_ble_eq_true rfl) dX6_learnFrom_47 (fun H locs hP hD hS => ?_)
      have hP : va_P D vwCl (lt_St yI B (upd i 7 0) a) H := hP
      have hD : va_D A (lt_St yI B (upd i 7 0) a) := hD
      refine lv_aload_n hx hb dX6_learnFrom_50 rfl (lv_at hl 1 rfl) ?_
      refine va_get (D := D) (ci := 6) (v := .ref (B 17)) (C := RX6) (T := TX6) (N := 10) hx hb hts iw_X6_learnFrom_6 hown hK hP 0 rfl rfl 2 (by decide) (hts (.fieldLink RX6 34 "LeafTurner$State" "settings" "LLeafTurner$Numbers;") (by decide +kernel)) (fun _ h9 => h9) rfl dX6_learnFrom_51 ?_
      refine lv_iconst (v := 1) hx hb dX6_learnFrom_54 (by decide) ?_
      have hPc := hP.sub (ws' := lt_N2 yI (B 17) (B 18) 3 (a 7)) [17, 18] rfl
      refine lt_cR (va_runV (As := [.int 1]) (rest := []) ⟨hx, hb, hml, hown, hts⟩ (c_X3_at l D yI yC yO (B 17) (B 18) 3 (a 7) 1 (by decide)) (cwV 1 hts gX6_learnFrom_X3_at rfl rfl rfl (by decide +kernel) ⟨Nat.le_of_ble_eq_true rfl, Nat.le_of_ble_eq_true rfl⟩) (lt_pV hK0 hPc (va_recv hK hPc (ci := 3) (q0 := 0) rfl rfl)) rfl rfl hl.1 rfl (lv_room (Nat.le_of_ble_eq_true rfl)) dX6_learnFrom_55 ⟨Nat.zero_le _, Nat.zero_le _⟩) (fun r_55 e_r_55 => ?_)
      refine lv_iconst (v := 1) hx hb dX6_learnFrom_58 (by decide) ?_
      refine lv_icmp_ne (tgt := 81) hx hb dX6_learnFrom_59 (by decide) (fun c_59 => ?_) (fun c_59 => ?_)
      · exact W.vret hx hb hret (fun t ht hW => ⟨⟨((upd i 7 0)), rfl, (by subst e_r_55; exact (Eq.symm (Eq.trans (if_pos c_1) (Eq.trans (if_neg c_12) (Eq.trans (if_neg c_59) rfl))))), by rw [ht]; exact hP, hD⟩, hS.F ht⟩) hS.2.2 dX6_learnFrom_81
      · refine lv_aload_n hx hb dX6_learnFrom_62 rfl (lv_at hl 1 rfl) ?_
        refine lv_iconst (v := 1) hx hb dX6_learnFrom_63 (by decide) ?_
        refine lv_bipush (v := 20) hx hb dX6_learnFrom_64 (by decide) ?_
        refine lv_aload_n hx hb dX6_learnFrom_66 rfl (lv_at hl 1 rfl) ?_
        refine va_get (D := D) (ci := 6) (v := .int (i 8)) (C := RX6) (T := TX6) (N := 10) hx hb hts iw_X6_learnFrom_6 hown hK hP 0 rfl rfl 4 (by decide) (hts (.fieldLink RX6 42 "LeafTurner$State" "suction" "I") (by decide +kernel)) (fun _ h9 => h9) rfl dX6_learnFrom_67 ?_
        refine lv_iload_n hx hb dX6_learnFrom_70 rfl (lv_at hl 0 rfl) ?_
        refine lv_iadd hx hb dX6_learnFrom_71 ?_
        refine va_mmin hx hb (hml.trans hl.1.symm) hown (hts (.methodLink RX6 100 Lib.Math.min.name) (by decide +kernel)) (hts (.static Lib.Math.min.name) (by decide +kernel)) (hts (.initialized "java/lang/Math") (by decide +kernel)) (hts (.code Lib.Math.min.name Lib.Math.min.code 2 (some .int)) (by decide +kernel)) (Nat.le_of_ble_eq_true rfl) (Nat.le_of_ble_eq_true rfl) (Nat.zero_le _) (Nat.zero_le _) dX6_learnFrom_72 ?_
        refine lv_topi (fun k_72 e_k_72 => ?_)
        refine va_mmax hx hb (hml.trans hl.1.symm) hown (hts (.methodLink RX6 106 Lib.Math.max.name) (by decide +kernel)) (hts (.static Lib.Math.max.name) (by decide +kernel)) (hts (.initialized "java/lang/Math") (by decide +kernel)) (hts (.code Lib.Math.max.name Lib.Math.max.code 2 (some .int)) (by decide +kernel)) (Nat.le_of_ble_eq_true rfl) (Nat.le_of_ble_eq_true rfl) (Nat.zero_le _) (Nat.zero_le _) dX6_learnFrom_75 ?_
        refine lv_topi (fun k_75 e_k_75 => ?_)
        refine va_put (D := D) (ci := 6) (v := .int k_75) (ty := .int) (C := RX6) (T := TX6) (N := 10) hx hb hts iw_X6_learnFrom_6 tyX6 tyX6_ok nmX6 hown hK hP hD hS 0 rfl rfl 4 (by decide) (hts (.fieldLink RX6 42 "LeafTurner$State" "suction" "I") (by decide +kernel)) (fun _ h9 => h9) rfl (by decide +kernel) rfl rfl (Nat.le_of_ble_eq_true rfl) dX6_learnFrom_78 (fun H locs hP hD hS => ?_)
        have hP : va_P D vwCl (lt_St yI B (upd (upd i 7 0) 8 k_75) a) H := hP
        have hD : va_D A (lt_St yI B (upd (upd i 7 0) 8 k_75) a) := hD
        exact W.vret hx hb hret (fun t ht hW => ⟨⟨((upd (upd i 7 0) 8 k_75)), rfl, (by rw [e_k_75, e_k_72]; subst e_r_55; unfold X6_learnFrom; rw [if_pos c_1, if_neg c_12]; exact (if_pos c_59).symm), by rw [ht]; exact hP, hD⟩, hS.F ht⟩) hS.2.2 dX6_learnFrom_81
    · refine lv_iconst (v := 0) hx hb dX6_learnFrom_15 (by decide) ?_
      refine lv_istore_n (lv' := [(2, .int 0), (0, .ref (B 0)), (1, .int p0)]) hx hb dX6_learnFrom_16 rfl hl (by decide) rfl (fun ls hl => ?_)
      refine lv_aload_n hx hb dX6_learnFrom_17 rfl (lv_at hl 1 rfl) ?_
      refine lv_dup hx hb dX6_learnFrom_18 rfl ?_
      refine va_get (D := D) (ci := 6) (v := .int (i 7)) (C := RX6) (T := TX6) (N := 10) hx hb hts iw_X6_learnFrom_6 hown hK hP 0 rfl rfl 8 (by decide) (hts (.fieldLink RX6 68 "LeafTurner$State" "singlesInRow" "I") (by decide +kernel)) (fun _ h9 => h9) rfl dX6_learnFrom_19 ?_
      refine lv_iconst (v := 1) hx hb dX6_learnFrom_22 (by decide) ?_
      refine lv_iadd hx hb dX6_learnFrom_23 ?_
      refine va_put (D := D) (ci := 6) (v := .int ((i 7) + 1)) (ty := .int) (C := RX6) (T := TX6) (N := 10) hx hb hts iw_X6_learnFrom_6 tyX6 tyX6_ok nmX6 hown hK hP hD hS 0 rfl rfl 8 (by decide) (hts (.fieldLink RX6 68 "LeafTurner$State" "singlesInRow" "I") (by decide +kernel)) (fun _ h9 => h9) rfl (by decide +kernel) rfl rfl (Nat.le_of_ble_eq_true rfl) dX6_learnFrom_24 (fun H locs hP hD hS => ?_)
      have hP : va_P D vwCl (lt_St yI B (upd i 7 ((i 7) + 1)) a) H := hP
      have hD : va_D A (lt_St yI B (upd i 7 ((i 7) + 1)) a) := hD
      refine lv_aload_n hx hb dX6_learnFrom_27 rfl (lv_at hl 1 rfl) ?_
      refine va_get (D := D) (ci := 6) (v := .int ((i 7) + 1)) (C := RX6) (T := TX6) (N := 10) hx hb hts iw_X6_learnFrom_6 hown hK hP 0 rfl rfl 8 (by decide) (hts (.fieldLink RX6 68 "LeafTurner$State" "singlesInRow" "I") (by decide +kernel)) (fun _ h9 => h9) rfl dX6_learnFrom_28 ?_
      refine lv_iconst (v := 5) hx hb dX6_learnFrom_31 (by decide) ?_
      refine lv_icmp_ne (tgt := 50) hx hb dX6_learnFrom_32 (by decide) (fun c_32 => ?_) (fun c_32 => ?_)
      · refine lv_aload_n hx hb dX6_learnFrom_50 rfl (lv_at hl 1 rfl) ?_
        refine va_get (D := D) (ci := 6) (v := .ref (B 17)) (C := RX6) (T := TX6) (N := 10) hx hb hts iw_X6_learnFrom_6 hown hK hP 0 rfl rfl 2 (by decide) (hts (.fieldLink RX6 34 "LeafTurner$State" "settings" "LLeafTurner$Numbers;") (by decide +kernel)) (fun _ h9 => h9) rfl dX6_learnFrom_51 ?_
        refine lv_iconst (v := 1) hx hb dX6_learnFrom_54 (by decide) ?_
        have hPc := hP.sub (ws' := lt_N2 yI (B 17) (B 18) 3 (a 7)) [17, 18] rfl
        refine lt_cR (va_runV (As := [.int 1]) (rest := []) ⟨hx, hb, hml, hown, hts⟩ (c_X3_at l D yI yC yO (B 17) (B 18) 3 (a 7) 1 (by decide)) (cwV 1 hts gX6_learnFrom_X3_at rfl rfl rfl (by decide +kernel) ⟨Nat.le_of_ble_eq_true rfl, Nat.le_of_ble_eq_true rfl⟩) (lt_pV hK0 hPc (va_recv hK hPc (ci := 3) (q0 := 0) rfl rfl)) rfl rfl hl.1 rfl (lv_room (Nat.le_of_ble_eq_true rfl)) dX6_learnFrom_55 ⟨Nat.zero_le _, Nat.zero_le _⟩) (fun r_55 e_r_55 => ?_)
        refine lv_iconst (v := 1) hx hb dX6_learnFrom_58 (by decide) ?_
        refine lv_icmp_ne (tgt := 81) hx hb dX6_learnFrom_59 (by decide) (fun c_59 => ?_) (fun c_59 => ?_)
        · exact W.vret hx hb hret (fun t ht hW => ⟨⟨((upd i 7 ((i 7) + 1))), rfl, (by subst e_r_55; exact (Eq.symm (Eq.trans (if_pos c_1) (Eq.trans (if_pos c_12) (Eq.trans (if_neg c_32) (Eq.trans (if_neg c_59) rfl)))))), by rw [ht]; exact hP, hD⟩, hS.F ht⟩) hS.2.2 dX6_learnFrom_81
        · refine lv_aload_n hx hb dX6_learnFrom_62 rfl (lv_at hl 1 rfl) ?_
          refine lv_iconst (v := 1) hx hb dX6_learnFrom_63 (by decide) ?_
          refine lv_bipush (v := 20) hx hb dX6_learnFrom_64 (by decide) ?_
          refine lv_aload_n hx hb dX6_learnFrom_66 rfl (lv_at hl 1 rfl) ?_
          refine va_get (D := D) (ci := 6) (v := .int (i 8)) (C := RX6) (T := TX6) (N := 10) hx hb hts iw_X6_learnFrom_6 hown hK hP 0 rfl rfl 4 (by decide) (hts (.fieldLink RX6 42 "LeafTurner$State" "suction" "I") (by decide +kernel)) (fun _ h9 => h9) rfl dX6_learnFrom_67 ?_
          refine lv_iload_n hx hb dX6_learnFrom_70 rfl (lv_at hl 0 rfl) ?_
          refine lv_iadd hx hb dX6_learnFrom_71 ?_
          refine va_mmin hx hb (hml.trans hl.1.symm) hown (hts (.methodLink RX6 100 Lib.Math.min.name) (by decide +kernel)) (hts (.static Lib.Math.min.name) (by decide +kernel)) (hts (.initialized "java/lang/Math") (by decide +kernel)) (hts (.code Lib.Math.min.name Lib.Math.min.code 2 (some .int)) (by decide +kernel)) (Nat.le_of_ble_eq_true rfl) (Nat.le_of_ble_eq_true rfl) (Nat.zero_le _) (Nat.zero_le _) dX6_learnFrom_72 ?_
          refine lv_topi (fun k_72 e_k_72 => ?_)
          refine va_mmax hx hb (hml.trans hl.1.symm) hown (hts (.methodLink RX6 106 Lib.Math.max.name) (by decide +kernel)) (hts (.static Lib.Math.max.name) (by decide +kernel)) (hts (.initialized "java/lang/Math") (by decide +kernel)) (hts (.code Lib.Math.max.name Lib.Math.max.code 2 (some .int)) (by decide +kernel)) (Nat.le_of_ble_eq_true rfl) (Nat.le_of_ble_eq_true rfl) (Nat.zero_le _) (Nat.zero_le _) dX6_learnFrom_75 ?_
          refine lv_topi (fun k_75 e_k_75 => ?_)
          refine va_put (D := D) (ci := 6) (v := .int k_75) (ty := .int) (C := RX6) (T := TX6) (N := 10) hx hb hts iw_X6_learnFrom_6 tyX6 tyX6_ok nmX6 hown hK hP hD hS 0 rfl rfl 4 (by decide) (hts (.fieldLink RX6 42 "LeafTurner$State" "suction" "I") (by decide +kernel)) (fun _ h9 => h9) rfl (by decide +kernel) rfl rfl (Nat.le_of_ble_eq_true rfl) dX6_learnFrom_78 (fun H locs hP hD hS => ?_)
          have hP : va_P D vwCl (lt_St yI B (upd (upd i 7 ((i 7) + 1)) 8 k_75) a) H := hP
          have hD : va_D A (lt_St yI B (upd (upd i 7 ((i 7) + 1)) 8 k_75) a) := hD
          exact W.vret hx hb hret (fun t ht hW => ⟨⟨((upd (upd i 7 ((i 7) + 1)) 8 k_75)), rfl, (by rw [e_k_75, e_k_72]; subst e_r_55; unfold X6_learnFrom; rw [if_pos c_1, if_pos c_12, if_neg c_32]; exact (if_pos c_59).symm), by rw [ht]; exact hP, hD⟩, hS.F ht⟩) hS.2.2 dX6_learnFrom_81
      · refine lv_iconst (v := (-1)) hx hb dX6_learnFrom_35 (by decide) ?_
        refine lv_istore_n (lv' := [(2, .int (-1)), (0, .ref (B 0)), (1, .int p0)]) hx hb dX6_learnFrom_36 rfl hl (by decide) rfl (fun ls hl => ?_)
        refine lv_aload_n hx hb dX6_learnFrom_37 rfl (lv_at hl 1 rfl) ?_
        refine lv_iconst (v := 0) hx hb dX6_learnFrom_38 (by decide) ?_
        refine va_put (D := D) (ci := 6) (v := .int 0) (ty := .int) (C := RX6) (T := TX6) (N := 10) hx hb hts iw_X6_learnFrom_6 tyX6 tyX6_ok nmX6 hown hK hP hD hS 0 rfl rfl 8 (by decide) (hts (.fieldLink RX6 68 "LeafTurner$State" "singlesInRow" "I") (by decide +kernel)) (fun _ h9 => h9) rfl (by decide +kernel) rfl rfl (Nat.le_of_ble_eq_true rfl) dX6_learnFrom_39 (fun H locs hP hD hS => ?_)
        have hP : va_P D vwCl (lt_St yI B (upd i 7 0) a) H := hP
        have hD : va_D A (lt_St yI B (upd i 7 0) a) := hD
        refine lv_goto (tgt := 50) hx hb dX6_learnFrom_42 (by decide) ?_
        refine lv_aload_n hx hb dX6_learnFrom_50 rfl (lv_at hl 1 rfl) ?_
        refine va_get (D := D) (ci := 6) (v := .ref (B 17)) (C := RX6) (T := TX6) (N := 10) hx hb hts iw_X6_learnFrom_6 hown hK hP 0 rfl rfl 2 (by decide) (hts (.fieldLink RX6 34 "LeafTurner$State" "settings" "LLeafTurner$Numbers;") (by decide +kernel)) (fun _ h9 => h9) rfl dX6_learnFrom_51 ?_
        refine lv_iconst (v := 1) hx hb dX6_learnFrom_54 (by decide) ?_
        have hPc := hP.sub (ws' := lt_N2 yI (B 17) (B 18) 3 (a 7)) [17, 18] rfl
        refine lt_cR (va_runV (As := [.int 1]) (rest := []) ⟨hx, hb, hml, hown, hts⟩ (c_X3_at l D yI yC yO (B 17) (B 18) 3 (a 7) 1 (by decide)) (cwV 1 hts gX6_learnFrom_X3_at rfl rfl rfl (by decide +kernel) ⟨Nat.le_of_ble_eq_true rfl, Nat.le_of_ble_eq_true rfl⟩) (lt_pV hK0 hPc (va_recv hK hPc (ci := 3) (q0 := 0) rfl rfl)) rfl rfl hl.1 rfl (lv_room (Nat.le_of_ble_eq_true rfl)) dX6_learnFrom_55 ⟨Nat.zero_le _, Nat.zero_le _⟩) (fun r_55 e_r_55 => ?_)
        refine lv_iconst (v := 1) hx hb dX6_learnFrom_58 (by decide) ?_
        refine lv_icmp_ne (tgt := 81) hx hb dX6_learnFrom_59 (by decide) (fun c_59 => ?_) (fun c_59 => ?_)
        · exact W.vret hx hb hret (fun t ht hW => ⟨⟨((upd i 7 0)), rfl, (by subst e_r_55; exact (Eq.symm (Eq.trans (if_pos c_1) (Eq.trans (if_pos c_12) (Eq.trans (if_pos c_32) (Eq.trans (if_neg c_59) rfl)))))), by rw [ht]; exact hP, hD⟩, hS.F ht⟩) hS.2.2 dX6_learnFrom_81
        · refine lv_aload_n hx hb dX6_learnFrom_62 rfl (lv_at hl 1 rfl) ?_
          refine lv_iconst (v := 1) hx hb dX6_learnFrom_63 (by decide) ?_
          refine lv_bipush (v := 20) hx hb dX6_learnFrom_64 (by decide) ?_
          refine lv_aload_n hx hb dX6_learnFrom_66 rfl (lv_at hl 1 rfl) ?_
          refine va_get (D := D) (ci := 6) (v := .int (i 8)) (C := RX6) (T := TX6) (N := 10) hx hb hts iw_X6_learnFrom_6 hown hK hP 0 rfl rfl 4 (by decide) (hts (.fieldLink RX6 42 "LeafTurner$State" "suction" "I") (by decide +kernel)) (fun _ h9 => h9) rfl dX6_learnFrom_67 ?_
          refine lv_iload_n hx hb dX6_learnFrom_70 rfl (lv_at hl 0 rfl) ?_
          refine lv_iadd hx hb dX6_learnFrom_71 ?_
          refine va_mmin hx hb (hml.trans hl.1.symm) hown (hts (.methodLink RX6 100 Lib.Math.min.name) (by decide +kernel)) (hts (.static Lib.Math.min.name) (by decide +kernel)) (hts (.initialized "java/lang/Math") (by decide +kernel)) (hts (.code Lib.Math.min.name Lib.Math.min.code 2 (some .int)) (by decide +kernel)) (Nat.le_of_ble_eq_true rfl) (Nat.le_of_ble_eq_true rfl) (Nat.zero_le _) (Nat.zero_le _) dX6_learnFrom_72 ?_
          refine lv_topi (fun k_72 e_k_72 => ?_)
          refine va_mmax hx hb (hml.trans hl.1.symm) hown (hts (.methodLink RX6 106 Lib.Math.max.name) (by decide +kernel)) (hts (.static Lib.Math.max.name) (by decide +kernel)) (hts (.initialized "java/lang/Math") (by decide +kernel)) (hts (.code Lib.Math.max.name Lib.Math.max.code 2 (some .int)) (by decide +kernel)) (Nat.le_of_ble_eq_true rfl) (Nat.le_of_ble_eq_true rfl) (Nat.zero_le _) (Nat.zero_le _) dX6_learnFrom_75 ?_
          refine lv_topi (fun k_75 e_k_75 => ?_)
          refine va_put (D := D) (ci := 6) (v := .int k_75) (ty := .int) (C := RX6) (T := TX6) (N := 10) hx hb hts iw_X6_learnFrom_6 tyX6 tyX6_ok nmX6 hown hK hP hD hS 0 rfl rfl 4 (by decide) (hts (.fieldLink RX6 42 "LeafTurner$State" "suction" "I") (by decide +kernel)) (fun _ h9 => h9) rfl (by decide +kernel) rfl rfl (Nat.le_of_ble_eq_true rfl) dX6_learnFrom_78 (fun H locs hP hD hS => ?_)
          have hP : va_P D vwCl (lt_St yI B (upd (upd i 7 0) 8 k_75) a) H := hP
          have hD : va_D A (lt_St yI B (upd (upd i 7 0) 8 k_75) a) := hD
          exact W.vret hx hb hret (fun t ht hW => ⟨⟨((upd (upd i 7 0) 8 k_75)), rfl, (by rw [e_k_75, e_k_72]; subst e_r_55; unfold X6_learnFrom; rw [if_pos c_1, if_pos c_12, if_pos c_32]; exact (if_pos c_59).symm), by rw [ht]; exact hP, hD⟩, hS.F ht⟩) hS.2.2 dX6_learnFrom_81

def X6_turnOnce (i : Nat → Int32) (a : Nat → Nat → Int32) : Int32 × ((Nat → Int32)) :=
  let r_5 := X6_liftedBy i a (i 8)
  if r_5 = 0 then
    if r_5 ≤ 1 then
      let x_60 := X6_learnFrom (upd (upd (upd i 1 ((i 1) + r_5)) 4 ((i 4) + 1)) 6 ((i 6) + 1)) a r_5
      (r_5, (x_60))
    else
      let x_60 := X6_learnFrom (upd (upd (upd (upd i 1 ((i 1) + r_5)) 4 ((i 4) + 1)) 6 ((i 6) + 1)) 5 ((i 5) + 1)) a r_5
      (r_5, (x_60))
  else
    if r_5 ≤ 1 then
      let x_60 := X6_learnFrom (upd (upd i 1 ((i 1) + r_5)) 4 ((i 4) + 1)) a r_5
      (r_5, (x_60))
    else
      let x_60 := X6_learnFrom (upd (upd (upd i 1 ((i 1) + r_5)) 4 ((i 4) + 1)) 5 ((i 5) + 1)) a r_5
      (r_5, (x_60))
theorem iw_X6_turnOnce_6 : ∀ w ∈ wsX60, w ∈ wsX6_turnOnce := by decide +kernel
set_option maxHeartbeats 4000000 in
set_option maxRecDepth 100000 in
theorem c_X6_turnOnce (l : Launch) (D : va_G) (yI yC yO : ClassId) (B : Nat → Nat) (i : Nat → Int32) (a : Nat → Nat → Int32) (sz : Nat) : Met l yX6_turnOnce wsX6_turnOnce ({ frames := 3, cells := 0, slots := 0, locals := 90 }) (va_Pc [.ref (B 0)] (lt_M D yI yC yO (lt_St yI B i a) sz)) (lt_Qi D (X6_turnOnce i a) (fun u => lt_St yI B u a) (va_A (lt_St yI B i a) sz)) 0 0 (va_A (lt_St yI B i a) sz) := by
  refine Met.ofW (cc := cX6_turnOnce) (maxL := 2) (ret := (some .int)) (by decide) rfl ?_
  intro p e s m args below meth c s₁ B0 hml hv
  obtain ⟨rfl, hsz, hP, hK0, hD0⟩ := hv
  have hx := B0.exec
  have hb := B0.bytes
  have hret := B0.returns
  have hts := atoms_spec (ws := wsX6_turnOnce) B0.pre
  have hown : s.vm.findClass RX6 = some m.cls := findClass_of_methodNamed B0.named
  have hlocks := B0.notSynchronized
  have hK := hK0.1
  have hN := hK0.2
  subst hsz
  have hD := hD0.self (sz := s.heap.size)
  generalize hAe : va_A (lt_St yI B i a) s.heap.size = A at hD ⊢
  have hA : ∀ q : Nat, s.heap.size ≤ q → A q := fun q h => by rw [← hAe]; exact Or.inr h
  have hS : va_S A s.heap s.heap [] := va_S.rf
  have hP : va_P D vwCl (lt_St yI B i a) s.heap := hP
  have hD : va_D A (lt_St yI B i a) := hD
  have hl := lv_entry ([.ref (B 0)]) (n := 2) (Nat.le_of_ble_eq_true rfl)
  rw [lg_entry_eq]
  generalize (lg_sl ([.ref (B 0)]) ++ List.replicate (2 - (lg_sl ([.ref (B 0)])).length) Slot.unset).toArray = ls at hl ⊢
  have hl : lv_has ls 2 [(0, .ref (B 0))] := hl
  refine lv_aload_n hx hb dX6_turnOnce_0 rfl (lv_at hl 0 rfl) ?_
  refine lv_aload_n hx hb dX6_turnOnce_1 rfl (lv_at hl 0 rfl) ?_
  refine va_get (D := D) (ci := 6) (v := .int (i 8)) (C := RX6) (T := TX6) (N := 10) hx hb hts iw_X6_turnOnce_6 hown hK hP 0 rfl rfl 4 (by decide) (hts (.fieldLink RX6 42 "LeafTurner$State" "suction" "I") (by decide +kernel)) (fun _ h9 => h9) rfl dX6_turnOnce_2 ?_
  have hPc := hP.sub (ws' := lt_St yI B i a) [0, 1, 2, 3, 4, 5, 6, 7, 8, 9, 10, 11, 12, 13, 14, 15, 16, 17, 18] rfl
  refine lt_cR (va_runV (As := [.int (i 8)]) (rest := []) ⟨hx, hb, hml, hown, hts⟩ (c_X6_liftedBy l D yI yC yO B i a (i 8) ) (cwV 1 hts gX6_turnOnce_X6_liftedBy rfl rfl rfl (by decide +kernel) ⟨Nat.le_of_ble_eq_true rfl, Nat.le_of_ble_eq_true rfl⟩) (lt_pV hK0 hPc (va_recv hK hPc (ci := 6) (q0 := 0) rfl rfl)) rfl rfl hl.1 rfl (lv_room (Nat.le_of_ble_eq_true rfl)) dX6_turnOnce_5 ⟨Nat.zero_le _, Nat.zero_le _⟩) (fun r_5 e_r_5 => ?_)
  refine lv_istore_n (lv' := [(1, .int r_5), (0, .ref (B 0))]) hx hb dX6_turnOnce_8 rfl hl (by decide) rfl (fun ls hl => ?_)
  refine lv_aload_n hx hb dX6_turnOnce_9 rfl (lv_at hl 1 rfl) ?_
  refine lv_dup hx hb dX6_turnOnce_10 rfl ?_
  refine va_get (D := D) (ci := 6) (v := .int (i 1)) (C := RX6) (T := TX6) (N := 10) hx hb hts iw_X6_turnOnce_6 hown hK hP 0 rfl rfl 3 (by decide) (hts (.fieldLink RX6 56 "LeafTurner$State" "left" "I") (by decide +kernel)) (fun _ h9 => h9) rfl dX6_turnOnce_11 ?_
  refine lv_iload_n hx hb dX6_turnOnce_14 rfl (lv_at hl 0 rfl) ?_
  refine lv_iadd hx hb dX6_turnOnce_15 ?_
  refine va_put (D := D) (ci := 6) (v := .int ((i 1) + r_5)) (ty := .int) (C := RX6) (T := TX6) (N := 10) hx hb hts iw_X6_turnOnce_6 tyX6 tyX6_ok nmX6 hown hK hP hD hS 0 rfl rfl 3 (by decide) (hts (.fieldLink RX6 56 "LeafTurner$State" "left" "I") (by decide +kernel)) (fun _ h9 => h9) rfl (by decide +kernel) rfl rfl (Nat.le_of_ble_eq_true rfl) dX6_turnOnce_16 (fun H locs hP hD hS => ?_)
  have hP : va_P D vwCl (lt_St yI B (upd i 1 ((i 1) + r_5)) a) H := hP
  have hD : va_D A (lt_St yI B (upd i 1 ((i 1) + r_5)) a) := hD
  refine lv_aload_n hx hb dX6_turnOnce_19 rfl (lv_at hl 1 rfl) ?_
  refine lv_dup hx hb dX6_turnOnce_20 rfl ?_
  refine va_get (D := D) (ci := 6) (v := .int (i 4)) (C := RX6) (T := TX6) (N := 10) hx hb hts iw_X6_turnOnce_6 hown hK hP 0 rfl rfl 5 (by decide) (hts (.fieldLink RX6 59 "LeafTurner$State" "turnings" "I") (by decide +kernel)) (fun _ h9 => h9) rfl dX6_turnOnce_21 ?_
  refine lv_iconst (v := 1) hx hb dX6_turnOnce_24 (by decide) ?_
  refine lv_iadd hx hb dX6_turnOnce_25 ?_
  refine va_put (D := D) (ci := 6) (v := .int ((i 4) + 1)) (ty := .int) (C := RX6) (T := TX6) (N := 10) hx hb hts iw_X6_turnOnce_6 tyX6 tyX6_ok nmX6 hown hK hP hD hS 0 rfl rfl 5 (by decide) (hts (.fieldLink RX6 59 "LeafTurner$State" "turnings" "I") (by decide +kernel)) (fun _ h9 => h9) rfl (by decide +kernel) rfl rfl (Nat.le_of_ble_eq_true rfl) dX6_turnOnce_26 (fun H locs hP hD hS => ?_)
  have hP : va_P D vwCl (lt_St yI B (upd (upd i 1 ((i 1) + r_5)) 4 ((i 4) + 1)) a) H := hP
  have hD : va_D A (lt_St yI B (upd (upd i 1 ((i 1) + r_5)) 4 ((i 4) + 1)) a) := hD
  refine lv_iload_n hx hb dX6_turnOnce_29 rfl (lv_at hl 0 rfl) ?_
  refine lv_if_ne (tgt := 43) hx hb dX6_turnOnce_30 (by decide) (fun c_30 => ?_) (fun c_30 => ?_)
  · refine lv_iload_n hx hb dX6_turnOnce_43 rfl (lv_at hl 0 rfl) ?_
    refine lv_iconst (v := 1) hx hb dX6_turnOnce_44 (by decide) ?_
    refine lv_icmp_le (tgt := 58) hx hb dX6_turnOnce_45 (by decide) (fun c_45 => ?_) (fun c_45 => ?_)
    · refine lv_aload_n hx hb dX6_turnOnce_58 rfl (lv_at hl 1 rfl) ?_
      refine lv_iload_n hx hb dX6_turnOnce_59 rfl (lv_at hl 0 rfl) ?_
      have hPc := hP.sub (ws' := lt_St yI B (upd (upd i 1 ((i 1) + r_5)) 4 ((i 4) + 1)) a) [0, 1, 2, 3, 4, 5, 6, 7, 8, 9, 10, 11, 12, 13, 14, 15, 16, 17, 18] rfl
      have hDc := hD.sub (ws' := lt_St yI B (upd (upd i 1 ((i 1) + r_5)) 4 ((i 4) + 1)) a) [0, 1, 2, 3, 4, 5, 6, 7, 8, 9, 10, 11, 12, 13, 14, 15, 16, 17, 18] (by decide) rfl
      refine lt_cWv (wc := lt_St yI B (upd (upd i 1 ((i 1) + r_5)) 4 ((i 4) + 1)) a) (wr := []) (va_runV (As := [.int r_5]) (rest := []) ⟨hx, hb, hml, hown, hts⟩ (c_X6_learnFrom l D yI yC yO B (upd (upd i 1 ((i 1) + r_5)) 4 ((i 4) + 1)) a r_5 _ ) (cwV 1 hts gX6_turnOnce_X6_learnFrom rfl rfl rfl (by decide +kernel) ⟨Nat.le_of_ble_eq_true rfl, Nat.le_of_ble_eq_true rfl⟩) (lt_qV hK0 hPc hDc (va_recv hK hPc (ci := 6) (q0 := 0) rfl rfl)) rfl rfl hl.1 rfl (lv_room (Nat.le_of_ble_eq_true rfl)) dX6_turnOnce_60 ⟨Nat.zero_le _, Nat.zero_le _⟩) hP hD hS hA [0, 1, 2, 3, 4, 5, 6, 7, 8, 9, 10, 11, 12, 13, 14, 15, 16, 17, 18] [] rfl rfl (by decide) (by decide) (fun x_60 e_x_60 H locs hP hD hS => ?_)
      have hP := hP.sub (ws' := lt_St yI B x_60 a) [0, 1, 2, 3, 4, 5, 6, 7, 8, 9, 10, 11, 12, 13, 14, 15, 16, 17, 18] rfl
      have hD := hD.sub (ws' := lt_St yI B x_60 a) [0, 1, 2, 3, 4, 5, 6, 7, 8, 9, 10, 11, 12, 13, 14, 15, 16, 17, 18] (by decide) rfl
      refine lv_iload_n hx hb dX6_turnOnce_63 rfl (lv_at hl 0 rfl) ?_
      exact W.iret (v := r_5) hx hb hret (fun t ht hW => ⟨⟨r_5, (x_60), rfl, (by subst e_x_60 e_r_5; exact (Eq.symm (Eq.trans (if_neg c_30) (Eq.trans (if_pos c_45) rfl)))), by rw [ht]; exact hP, hD⟩, hS.F ht⟩) hS.2.2 dX6_turnOnce_64
    · refine lv_aload_n hx hb dX6_turnOnce_48 rfl (lv_at hl 1 rfl) ?_
      refine lv_dup hx hb dX6_turnOnce_49 rfl ?_
      refine va_get (D := D) (ci := 6) (v := .int (i 5)) (C := RX6) (T := TX6) (N := 10) hx hb hts iw_X6_turnOnce_6 hown hK hP 0 rfl rfl 6 (by decide) (hts (.fieldLink RX6 62 "LeafTurner$State" "turningsOfMore" "I") (by decide +kernel)) (fun _ h9 => h9) rfl dX6_turnOnce_50 ?_
      refine lv_iconst (v := 1) hx hb dX6_turnOnce_53 (by decide) ?_
      refine lv_iadd hx hb dX6_turnOnce_54 ?_
      refine va_put (D := D) (ci := 6) (v := .int ((i 5) + 1)) (ty := .int) (C := RX6) (T := TX6) (N := 10) hx hb hts iw_X6_turnOnce_6 tyX6 tyX6_ok nmX6 hown hK hP hD hS 0 rfl rfl 6 (by decide) (hts (.fieldLink RX6 62 "LeafTurner$State" "turningsOfMore" "I") (by decide +kernel)) (fun _ h9 => h9) rfl (by decide +kernel) rfl rfl (Nat.le_of_ble_eq_true rfl) dX6_turnOnce_55 (fun H locs hP hD hS => ?_)
      have hP : va_P D vwCl (lt_St yI B (upd (upd (upd i 1 ((i 1) + r_5)) 4 ((i 4) + 1)) 5 ((i 5) + 1)) a) H := hP
      have hD : va_D A (lt_St yI B (upd (upd (upd i 1 ((i 1) + r_5)) 4 ((i 4) + 1)) 5 ((i 5) + 1)) a) := hD
      refine lv_aload_n hx hb dX6_turnOnce_58 rfl (lv_at hl 1 rfl) ?_
      refine lv_iload_n hx hb dX6_turnOnce_59 rfl (lv_at hl 0 rfl) ?_
      have hPc := hP.sub (ws' := lt_St yI B (upd (upd (upd i 1 ((i 1) + r_5)) 4 ((i 4) + 1)) 5 ((i 5) + 1)) a) [0, 1, 2, 3, 4, 5, 6, 7, 8, 9, 10, 11, 12, 13, 14, 15, 16, 17, 18] rfl
      have hDc := hD.sub (ws' := lt_St yI B (upd (upd (upd i 1 ((i 1) + r_5)) 4 ((i 4) + 1)) 5 ((i 5) + 1)) a) [0, 1, 2, 3, 4, 5, 6, 7, 8, 9, 10, 11, 12, 13, 14, 15, 16, 17, 18] (by decide) rfl
      refine lt_cWv (wc := lt_St yI B (upd (upd (upd i 1 ((i 1) + r_5)) 4 ((i 4) + 1)) 5 ((i 5) + 1)) a) (wr := []) (va_runV (As := [.int r_5]) (rest := []) ⟨hx, hb, hml, hown, hts⟩ (c_X6_learnFrom l D yI yC yO B (upd (upd (upd i 1 ((i 1) + r_5)) 4 ((i 4) + 1)) 5 ((i 5) + 1)) a r_5 _ ) (cwV 1 hts gX6_turnOnce_X6_learnFrom rfl rfl rfl (by decide +kernel) ⟨Nat.le_of_ble_eq_true rfl, Nat.le_of_ble_eq_true rfl⟩) (lt_qV hK0 hPc hDc (va_recv hK hPc (ci := 6) (q0 := 0) rfl rfl)) rfl rfl hl.1 rfl (lv_room (Nat.le_of_ble_eq_true rfl)) dX6_turnOnce_60 ⟨Nat.zero_le _, Nat.zero_le _⟩) hP hD hS hA [0, 1, 2, 3, 4, 5, 6, 7, 8, 9, 10, 11, 12, 13, 14, 15, 16, 17, 18] [] rfl rfl (by decide) (by decide) (fun x_60 e_x_60 H locs hP hD hS => ?_)
      have hP := hP.sub (ws' := lt_St yI B x_60 a) [0, 1, 2, 3, 4, 5, 6, 7, 8, 9, 10, 11, 12, 13, 14, 15, 16, 17, 18] rfl
      have hD := hD.sub (ws' := lt_St yI B x_60 a) [0, 1, 2, 3, 4, 5, 6, 7, 8, 9, 10, 11, 12, 13, 14, 15, 16, 17, 18] (by decide) rfl
      refine lv_iload_n hx hb dX6_turnOnce_63 rfl (lv_at hl 0 rfl) ?_
      exact W.iret (v := r_5) hx hb hret (fun t ht hW => ⟨⟨r_5, (x_60), rfl, (by subst e_x_60 e_r_5; exact (Eq.symm (Eq.trans (if_neg c_30) (Eq.trans (if_neg c_45) rfl)))), by rw [ht]; exact hP, hD⟩, hS.F ht⟩) hS.2.2 dX6_turnOnce_64
  · refine lv_aload_n hx hb dX6_turnOnce_33 rfl (lv_at hl 1 rfl) ?_
    refine lv_dup hx hb dX6_turnOnce_34 rfl ?_
    refine va_get (D := D) (ci := 6) (v := .int (i 6)) (C := RX6) (T := TX6) (N := 10) hx hb hts iw_X6_turnOnce_6 hown hK hP 0 rfl rfl 7 (by decide) (hts (.fieldLink RX6 65 "LeafTurner$State" "turningsOfNone" "I") (by decide +kernel)) (fun _ h9 => h9) rfl dX6_turnOnce_35 ?_
    refine lv_iconst (v := 1) hx hb dX6_turnOnce_38 (by decide) ?_
    refine lv_iadd hx hb dX6_turnOnce_39 ?_
    refine va_put (D := D) (ci := 6) (v := .int ((i 6) + 1)) (ty := .int) (C := RX6) (T := TX6) (N := 10) hx hb hts iw_X6_turnOnce_6 tyX6 tyX6_ok nmX6 hown hK hP hD hS 0 rfl rfl 7 (by decide) (hts (.fieldLink RX6 65 "LeafTurner$State" "turningsOfNone" "I") (by decide +kernel)) (fun _ h9 => h9) rfl (by decide +kernel) rfl rfl (Nat.le_of_ble_eq_true rfl) dX6_turnOnce_40 (fun H locs hP hD hS => ?_)
    have hP : va_P D vwCl (lt_St yI B (upd (upd (upd i 1 ((i 1) + r_5)) 4 ((i 4) + 1)) 6 ((i 6) + 1)) a) H := hP
    have hD : va_D A (lt_St yI B (upd (upd (upd i 1 ((i 1) + r_5)) 4 ((i 4) + 1)) 6 ((i 6) + 1)) a) := hD
    refine lv_iload_n hx hb dX6_turnOnce_43 rfl (lv_at hl 0 rfl) ?_
    refine lv_iconst (v := 1) hx hb dX6_turnOnce_44 (by decide) ?_
    refine lv_icmp_le (tgt := 58) hx hb dX6_turnOnce_45 (by decide) (fun c_45 => ?_) (fun c_45 => ?_)
    · refine lv_aload_n hx hb dX6_turnOnce_58 rfl (lv_at hl 1 rfl) ?_
      refine lv_iload_n hx hb dX6_turnOnce_59 rfl (lv_at hl 0 rfl) ?_
      have hPc := hP.sub (ws' := lt_St yI B (upd (upd (upd i 1 ((i 1) + r_5)) 4 ((i 4) + 1)) 6 ((i 6) + 1)) a) [0, 1, 2, 3, 4, 5, 6, 7, 8, 9, 10, 11, 12, 13, 14, 15, 16, 17, 18] rfl
      have hDc := hD.sub (ws' := lt_St yI B (upd (upd (upd i 1 ((i 1) + r_5)) 4 ((i 4) + 1)) 6 ((i 6) + 1)) a) [0, 1, 2, 3, 4, 5, 6, 7, 8, 9, 10, 11, 12, 13, 14, 15, 16, 17, 18] (by decide) rfl
      refine lt_cWv (wc := lt_St yI B (upd (upd (upd i 1 ((i 1) + r_5)) 4 ((i 4) + 1)) 6 ((i 6) + 1)) a) (wr := []) (va_runV (As := [.int r_5]) (rest := []) ⟨hx, hb, hml, hown, hts⟩ (c_X6_learnFrom l D yI yC yO B (upd (upd (upd i 1 ((i 1) + r_5)) 4 ((i 4) + 1)) 6 ((i 6) + 1)) a r_5 _ ) (cwV 1 hts gX6_turnOnce_X6_learnFrom rfl rfl rfl (by decide +kernel) ⟨Nat.le_of_ble_eq_true rfl, Nat.le_of_ble_eq_true rfl⟩) (lt_qV hK0 hPc hDc (va_recv hK hPc (ci := 6) (q0 := 0) rfl rfl)) rfl rfl hl.1 rfl (lv_room (Nat.le_of_ble_eq_true rfl)) dX6_turnOnce_60 ⟨Nat.zero_le _, Nat.zero_le _⟩) hP hD hS hA [0, 1, 2, 3, 4, 5, 6, 7, 8, 9, 10, 11, 12, 13, 14, 15, 16, 17, 18] [] rfl rfl (by decide) (by decide) (fun x_60 e_x_60 H locs hP hD hS => ?_)
      have hP := hP.sub (ws' := lt_St yI B x_60 a) [0, 1, 2, 3, 4, 5, 6, 7, 8, 9, 10, 11, 12, 13, 14, 15, 16, 17, 18] rfl
      have hD := hD.sub (ws' := lt_St yI B x_60 a) [0, 1, 2, 3, 4, 5, 6, 7, 8, 9, 10, 11, 12, 13, 14, 15, 16, 17, 18] (by decide) rfl
      refine lv_iload_n hx hb dX6_turnOnce_63 rfl (lv_at hl 0 rfl) ?_
      exact W.iret (v := r_5) hx hb hret (fun t ht hW => ⟨⟨r_5, (x_60), rfl, (by subst e_x_60 e_r_5; exact (Eq.symm (Eq.trans (if_pos c_30) (Eq.trans (if_pos c_45) rfl)))), by rw [ht]; exact hP, hD⟩, hS.F ht⟩) hS.2.2 dX6_turnOnce_64
    · refine lv_aload_n hx hb dX6_turnOnce_48 rfl (lv_at hl 1 rfl) ?_
      refine lv_dup hx hb dX6_turnOnce_49 rfl ?_
      refine va_get (D := D) (ci := 6) (v := .int (i 5)) (C := RX6) (T := TX6) (N := 10) hx hb hts iw_X6_turnOnce_6 hown hK hP 0 rfl rfl 6 (by decide) (hts (.fieldLink RX6 62 "LeafTurner$State" "turningsOfMore" "I") (by decide +kernel)) (fun _ h9 => h9) rfl dX6_turnOnce_50 ?_
      refine lv_iconst (v := 1) hx hb dX6_turnOnce_53 (by decide) ?_
      refine lv_iadd hx hb dX6_turnOnce_54 ?_
      refine va_put (D := D) (ci := 6) (v := .int ((i 5) + 1)) (ty := .int) (C := RX6) (T := TX6) (N := 10) hx hb hts iw_X6_turnOnce_6 tyX6 tyX6_ok nmX6 hown hK hP hD hS 0 rfl rfl 6 (by decide) (hts (.fieldLink RX6 62 "LeafTurner$State" "turningsOfMore" "I") (by decide +kernel)) (fun _ h9 => h9) rfl (by decide +kernel) rfl rfl (Nat.le_of_ble_eq_true rfl) dX6_turnOnce_55 (fun H locs hP hD hS => ?_)
      have hP : va_P D vwCl (lt_St yI B (upd (upd (upd (upd i 1 ((i 1) + r_5)) 4 ((i 4) + 1)) 6 ((i 6) + 1)) 5 ((i 5) + 1)) a) H := hP
      have hD : va_D A (lt_St yI B (upd (upd (upd (upd i 1 ((i 1) + r_5)) 4 ((i 4) + 1)) 6 ((i 6) + 1)) 5 ((i 5) + 1)) a) := hD
      refine lv_aload_n hx hb dX6_turnOnce_58 rfl (lv_at hl 1 rfl) ?_
      refine lv_iload_n hx hb dX6_turnOnce_59 rfl (lv_at hl 0 rfl) ?_
      have hPc := hP.sub (ws' := lt_St yI B (upd (upd (upd (upd i 1 ((i 1) + r_5)) 4 ((i 4) + 1)) 6 ((i 6) + 1)) 5 ((i 5) + 1)) a) [0, 1, 2, 3, 4, 5, 6, 7, 8, 9, 10, 11, 12, 13, 14, 15, 16, 17, 18] rfl
      have hDc := hD.sub (ws' := lt_St yI B (upd (upd (upd (upd i 1 ((i 1) + r_5)) 4 ((i 4) + 1)) 6 ((i 6) + 1)) 5 ((i 5) + 1)) a) [0, 1, 2, 3, 4, 5, 6, 7, 8, 9, 10, 11, 12, 13, 14, 15, 16, 17, 18] (by decide) rfl
      refine lt_cWv (wc := lt_St yI B (upd (upd (upd (upd i 1 ((i 1) + r_5)) 4 ((i 4) + 1)) 6 ((i 6) + 1)) 5 ((i 5) + 1)) a) (wr := []) (va_runV (As := [.int r_5]) (rest := []) ⟨hx, hb, hml, hown, hts⟩ (c_X6_learnFrom l D yI yC yO B (upd (upd (upd (upd i 1 ((i 1) + r_5)) 4 ((i 4) + 1)) 6 ((i 6) + 1)) 5 ((i 5) + 1)) a r_5 _ ) (cwV 1 hts gX6_turnOnce_X6_learnFrom rfl rfl rfl (by decide +kernel) ⟨Nat.le_of_ble_eq_true rfl, Nat.le_of_ble_eq_true rfl⟩) (lt_qV hK0 hPc hDc (va_recv hK hPc (ci := 6) (q0 := 0) rfl rfl)) rfl rfl hl.1 rfl (lv_room (Nat.le_of_ble_eq_true rfl)) dX6_turnOnce_60 ⟨Nat.zero_le _, Nat.zero_le _⟩) hP hD hS hA [0, 1, 2, 3, 4, 5, 6, 7, 8, 9, 10, 11, 12, 13, 14, 15, 16, 17, 18] [] rfl rfl (by decide) (by decide) (fun x_60 e_x_60 H locs hP hD hS => ?_)
      have hP := hP.sub (ws' := lt_St yI B x_60 a) [0, 1, 2, 3, 4, 5, 6, 7, 8, 9, 10, 11, 12, 13, 14, 15, 16, 17, 18] rfl
      have hD := hD.sub (ws' := lt_St yI B x_60 a) [0, 1, 2, 3, 4, 5, 6, 7, 8, 9, 10, 11, 12, 13, 14, 15, 16, 17, 18] (by decide) rfl
      refine lv_iload_n hx hb dX6_turnOnce_63 rfl (lv_at hl 0 rfl) ?_
      exact W.iret (v := r_5) hx hb hret (fun t ht hW => ⟨⟨r_5, (x_60), rfl, (by subst e_x_60 e_r_5; exact (Eq.symm (Eq.trans (if_pos c_30) (Eq.trans (if_neg c_45) rfl)))), by rw [ht]; exact hP, hD⟩, hS.F ht⟩) hS.2.2 dX6_turnOnce_64

def X6_gutterIsGood (i : Nat → Int32) (a : Nat → Nat → Int32) (p0 : Int32) : Int32 :=
  let r_5 := X7_isRightPage p0
  if r_5 = 0 then
    let r_32 := X3_at 3 (a 7) 0
    if r_32 ≤ ((p0 / 2) + 1) then
      1
    else
      if (2 * r_32) ≤ (i 0) then
        0
      else
        1
  else
    let v_26 := (i 0) - (p0 / 2)
    let r_32 := X3_at 3 (a 7) 0
    if r_32 ≤ v_26 then
      1
    else
      if (2 * r_32) ≤ (i 0) then
        0
      else
        1
theorem iw_X6_gutterIsGood_6 : ∀ w ∈ wsX60, w ∈ wsX6_gutterIsGood := by decide +kernel
theorem iw_X6_gutterIsGood_0 : ∀ w ∈ wsX00, w ∈ wsX6_gutterIsGood := by decide +kernel
set_option maxHeartbeats 4000000 in
set_option maxRecDepth 100000 in
theorem c_X6_gutterIsGood (l : Launch) (D : va_G) (yI yC yO : ClassId) (B : Nat → Nat) (i : Nat → Int32) (a : Nat → Nat → Int32) (p0 : Int32) : Met l yX6_gutterIsGood wsX6_gutterIsGood ({ frames := 2, cells := 0, slots := 0, locals := 60 }) (va_Pc [.ref (B 0), .int p0] (lt_R D yI yC yO (lt_St yI B i a))) (lt_Si (X6_gutterIsGood i a p0)) 0 0 (fun _ => False) := by
  refine Met.ofW (cc := cX6_gutterIsGood) (maxL := 5) (ret := (some .boolean)) (by decide) rfl ?_
  intro p e s m args below meth c s₁ B0 hml hv
  obtain ⟨rfl, hP, hK0⟩ := hv
  have hx := B0.exec
  have hb := B0.bytes
  have hret := B0.returns
  have hts := atoms_spec (ws := wsX6_gutterIsGood) B0.pre
  have hown : s.vm.findClass RX6 = some m.cls := findClass_of_methodNamed B0.named
  have hlocks := B0.notSynchronized
  have hK := hK0.1
  have hN := hK0.2
  have hP : va_P D vwCl (lt_St yI B i a) s.heap := hP
  have hl := lv_entry ([.ref (B 0), .int p0]) (n := 5) (Nat.le_of_ble_eq_true rfl)
  rw [lg_entry_eq]
  generalize (lg_sl ([.ref (B 0), .int p0]) ++ List.replicate (5 - (lg_sl ([.ref (B 0), .int p0])).length) Slot.unset).toArray = ls at hl ⊢
  have hl : lv_has ls 5 [(0, .ref (B 0)), (1, .int p0)] := hl
  refine lv_iload_n hx hb dX6_gutterIsGood_0 rfl (lv_at hl 1 rfl) ?_
  refine lv_iconst (v := 2) hx hb dX6_gutterIsGood_1 (by decide) ?_
  refine lv_idiv hx hb dX6_gutterIsGood_2 (by decide) ?_
  refine lv_istore_n (lv' := [(2, .int (p0 / 2)), (0, .ref (B 0)), (1, .int p0)]) hx hb dX6_gutterIsGood_3 rfl hl (by decide) rfl (fun ls hl => ?_)
  refine lv_iload_n hx hb dX6_gutterIsGood_4 rfl (lv_at hl 2 rfl) ?_
  have hPc := hP.sub (ws' := ([] : va_W)) [] rfl
  refine lt_cR (va_runSN (As := [.int p0]) (rest := []) ⟨hx, hb, hml, hown, hts⟩ (c_X7_isRightPage l D yI yC yO p0 ) ⟨va_cnB 1 hts gX6_gutterIsGood_X7_isRightPage_n109 rfl rfl rfl (hN _ lt_nw35) (hts (.initialized RX7) (by decide +kernel)) (by decide +kernel) ⟨Nat.le_of_ble_eq_true rfl, Nat.le_of_ble_eq_true rfl⟩, hts (.static yX7_isRightPage) (by decide +kernel), trivial⟩ (lt_pS hK0 hPc) rfl rfl hl.1 rfl (lv_room (Nat.le_of_ble_eq_true rfl)) dX6_gutterIsGood_5 ⟨Nat.zero_le _, Nat.zero_le _⟩) (fun r_5 e_r_5 => ?_)
  refine lv_if_eq (tgt := 23) hx hb dX6_gutterIsGood_8 (by decide) (fun c_8 => ?_) (fun c_8 => ?_)
  · refine lv_iload_n hx hb dX6_gutterIsGood_23 rfl (lv_at hl 0 rfl) ?_
    refine lv_iconst (v := 1) hx hb dX6_gutterIsGood_24 (by decide) ?_
    refine lv_iadd hx hb dX6_gutterIsGood_25 ?_
    refine lv_istore_n (lv' := [(3, .int ((p0 / 2) + 1)), (2, .int (p0 / 2)), (0, .ref (B 0)), (1, .int p0)]) hx hb dX6_gutterIsGood_26 rfl hl (by decide) rfl (fun ls hl => ?_)
    refine lv_aload_n hx hb dX6_gutterIsGood_27 rfl (lv_at hl 2 rfl) ?_
    refine va_get (D := D) (ci := 6) (v := .ref (B 17)) (C := RX6) (T := TX6) (N := 10) hx hb hts iw_X6_gutterIsGood_6 hown hK hP 0 rfl rfl 2 (by decide) (hts (.fieldLink RX6 34 "LeafTurner$State" "settings" "LLeafTurner$Numbers;") (by decide +kernel)) (fun _ h9 => h9) rfl dX6_gutterIsGood_28 ?_
    refine lv_iconst (v := 0) hx hb dX6_gutterIsGood_31 (by decide) ?_
    have hPc := hP.sub (ws' := lt_N2 yI (B 17) (B 18) 3 (a 7)) [17, 18] rfl
    refine lt_cR (va_runV (As := [.int 0]) (rest := []) ⟨hx, hb, hml, hown, hts⟩ (c_X3_at l D yI yC yO (B 17) (B 18) 3 (a 7) 0 (by decide)) (cwV 1 hts gX6_gutterIsGood_X3_at rfl rfl rfl (by decide +kernel) ⟨Nat.le_of_ble_eq_true rfl, Nat.le_of_ble_eq_true rfl⟩) (lt_pV hK0 hPc (va_recv hK hPc (ci := 3) (q0 := 0) rfl rfl)) rfl rfl hl.1 rfl (lv_room (Nat.le_of_ble_eq_true rfl)) dX6_gutterIsGood_32 ⟨Nat.zero_le _, Nat.zero_le _⟩) (fun r_32 e_r_32 => ?_)
    refine lv_istore (lv' := [(4, .int r_32), (3, .int ((p0 / 2) + 1)), (2, .int (p0 / 2)), (0, .ref (B 0)), (1, .int p0)]) hx hb dX6_gutterIsGood_35 hl (by decide) rfl (fun ls hl => ?_)
    refine lv_iload_n hx hb dX6_gutterIsGood_37 rfl (lv_at hl 1 rfl) ?_
    refine lv_iload hx hb dX6_gutterIsGood_38 (lv_at hl 0 rfl) ?_
    refine lv_icmp_ge (tgt := 57) hx hb dX6_gutterIsGood_40 (by decide) (fun c_40 => ?_) (fun c_40 => ?_)
    · refine lv_iconst (v := 1) hx hb dX6_gutterIsGood_57 (by decide) ?_
      refine lv_goto (tgt := 62) hx hb dX6_gutterIsGood_58 (by decide) ?_
      exact W.zret (v := 1) hx hb hret lt_z1 (fun t ht hW => ⟨1, rfl, (by subst e_r_32 e_r_5; exact (Eq.symm (Eq.trans (if_pos c_8) (Eq.trans (if_pos c_40) rfl)))), ht⟩) (fun _ h => absurd h List.not_mem_nil) dX6_gutterIsGood_62
    · refine lv_aload_n hx hb dX6_gutterIsGood_43 rfl (lv_at hl 3 rfl) ?_
      refine va_get (D := D) (ci := 6) (v := .ref (B 1)) (C := RX6) (T := TX6) (N := 10) hx hb hts iw_X6_gutterIsGood_6 hown hK hP 0 rfl rfl 0 (by decide) (hts (.fieldLink RX6 12 "LeafTurner$State" "book" "LLeafTurner$Book;") (by decide +kernel)) (fun _ h9 => h9) rfl dX6_gutterIsGood_44 ?_
      refine va_getN (D := D) (ci := 0) (v := .int (i 0)) (C := RX0) (T := TX0) (N := 4) hx hb hts iw_X6_gutterIsGood_0 hown hK hP 1 rfl rfl 3 (by decide) (va_Nw.use rfl (hN _ lt_nw8)) (fun _ h9 => h9) rfl dX6_gutterIsGood_47 ?_
      refine lv_iconst (v := 2) hx hb dX6_gutterIsGood_50 (by decide) ?_
      refine lv_iload hx hb dX6_gutterIsGood_51 (lv_at hl 0 rfl) ?_
      refine lv_imul hx hb dX6_gutterIsGood_53 ?_
      refine lv_icmp_ge (tgt := 61) hx hb dX6_gutterIsGood_54 (by decide) (fun c_54 => ?_) (fun c_54 => ?_)
      · refine lv_iconst (v := 0) hx hb dX6_gutterIsGood_61 (by decide) ?_
        exact W.zret (v := 0) hx hb hret lt_z0 (fun t ht hW => ⟨0, rfl, (by subst e_r_32 e_r_5; exact (Eq.symm (Eq.trans (if_pos c_8) (Eq.trans (if_neg c_40) (Eq.trans (if_pos c_54) rfl))))), ht⟩) (fun _ h => absurd h List.not_mem_nil) dX6_gutterIsGood_62
      · refine lv_iconst (v := 1) hx hb dX6_gutterIsGood_57 (by decide) ?_
        refine lv_goto (tgt := 62) hx hb dX6_gutterIsGood_58 (by decide) ?_
        exact W.zret (v := 1) hx hb hret lt_z1 (fun t ht hW => ⟨1, rfl, (by subst e_r_32 e_r_5; exact (Eq.symm (Eq.trans (if_pos c_8) (Eq.trans (if_neg c_40) (Eq.trans (if_neg c_54) rfl))))), ht⟩) (fun _ h => absurd h List.not_mem_nil) dX6_gutterIsGood_62
  · refine lv_aload_n hx hb dX6_gutterIsGood_11 rfl (lv_at hl 1 rfl) ?_
    refine va_get (D := D) (ci := 6) (v := .ref (B 1)) (C := RX6) (T := TX6) (N := 10) hx hb hts iw_X6_gutterIsGood_6 hown hK hP 0 rfl rfl 0 (by decide) (hts (.fieldLink RX6 12 "LeafTurner$State" "book" "LLeafTurner$Book;") (by decide +kernel)) (fun _ h9 => h9) rfl dX6_gutterIsGood_12 ?_
    refine va_getN (D := D) (ci := 0) (v := .int (i 0)) (C := RX0) (T := TX0) (N := 4) hx hb hts iw_X6_gutterIsGood_0 hown hK hP 1 rfl rfl 3 (by decide) (va_Nw.use rfl (hN _ lt_nw8)) (fun _ h9 => h9) rfl dX6_gutterIsGood_15 ?_
    refine lv_iload_n hx hb dX6_gutterIsGood_18 rfl (lv_at hl 0 rfl) ?_
    refine lv_isub hx hb dX6_gutterIsGood_19 ?_
    refine lv_goto (tgt := 26) hx hb dX6_gutterIsGood_20 (by decide) ?_
    refine lv_topi (fun v_26 e_v_26 => ?_)
    refine lv_istore_n (lv' := [(3, .int v_26), (2, .int (p0 / 2)), (0, .ref (B 0)), (1, .int p0)]) hx hb dX6_gutterIsGood_26 rfl hl (by decide) rfl (fun ls hl => ?_)
    refine lv_aload_n hx hb dX6_gutterIsGood_27 rfl (lv_at hl 2 rfl) ?_
    refine va_get (D := D) (ci := 6) (v := .ref (B 17)) (C := RX6) (T := TX6) (N := 10) hx hb hts iw_X6_gutterIsGood_6 hown hK hP 0 rfl rfl 2 (by decide) (hts (.fieldLink RX6 34 "LeafTurner$State" "settings" "LLeafTurner$Numbers;") (by decide +kernel)) (fun _ h9 => h9) rfl dX6_gutterIsGood_28 ?_
    refine lv_iconst (v := 0) hx hb dX6_gutterIsGood_31 (by decide) ?_
    have hPc := hP.sub (ws' := lt_N2 yI (B 17) (B 18) 3 (a 7)) [17, 18] rfl
    refine lt_cR (va_runV (As := [.int 0]) (rest := []) ⟨hx, hb, hml, hown, hts⟩ (c_X3_at l D yI yC yO (B 17) (B 18) 3 (a 7) 0 (by decide)) (cwV 1 hts gX6_gutterIsGood_X3_at rfl rfl rfl (by decide +kernel) ⟨Nat.le_of_ble_eq_true rfl, Nat.le_of_ble_eq_true rfl⟩) (lt_pV hK0 hPc (va_recv hK hPc (ci := 3) (q0 := 0) rfl rfl)) rfl rfl hl.1 rfl (lv_room (Nat.le_of_ble_eq_true rfl)) dX6_gutterIsGood_32 ⟨Nat.zero_le _, Nat.zero_le _⟩) (fun r_32 e_r_32 => ?_)
    refine lv_istore (lv' := [(4, .int r_32), (3, .int v_26), (2, .int (p0 / 2)), (0, .ref (B 0)), (1, .int p0)]) hx hb dX6_gutterIsGood_35 hl (by decide) rfl (fun ls hl => ?_)
    refine lv_iload_n hx hb dX6_gutterIsGood_37 rfl (lv_at hl 1 rfl) ?_
    refine lv_iload hx hb dX6_gutterIsGood_38 (lv_at hl 0 rfl) ?_
    refine lv_icmp_ge (tgt := 57) hx hb dX6_gutterIsGood_40 (by decide) (fun c_40 => ?_) (fun c_40 => ?_)
    · refine lv_iconst (v := 1) hx hb dX6_gutterIsGood_57 (by decide) ?_
      refine lv_goto (tgt := 62) hx hb dX6_gutterIsGood_58 (by decide) ?_
      exact W.zret (v := 1) hx hb hret lt_z1 (fun t ht hW => ⟨1, rfl, (by subst e_r_32 e_v_26 e_r_5; exact (Eq.symm (Eq.trans (if_neg c_8) (Eq.trans (if_pos c_40) rfl)))), ht⟩) (fun _ h => absurd h List.not_mem_nil) dX6_gutterIsGood_62
    · refine lv_aload_n hx hb dX6_gutterIsGood_43 rfl (lv_at hl 3 rfl) ?_
      refine va_get (D := D) (ci := 6) (v := .ref (B 1)) (C := RX6) (T := TX6) (N := 10) hx hb hts iw_X6_gutterIsGood_6 hown hK hP 0 rfl rfl 0 (by decide) (hts (.fieldLink RX6 12 "LeafTurner$State" "book" "LLeafTurner$Book;") (by decide +kernel)) (fun _ h9 => h9) rfl dX6_gutterIsGood_44 ?_
      refine va_getN (D := D) (ci := 0) (v := .int (i 0)) (C := RX0) (T := TX0) (N := 4) hx hb hts iw_X6_gutterIsGood_0 hown hK hP 1 rfl rfl 3 (by decide) (va_Nw.use rfl (hN _ lt_nw8)) (fun _ h9 => h9) rfl dX6_gutterIsGood_47 ?_
      refine lv_iconst (v := 2) hx hb dX6_gutterIsGood_50 (by decide) ?_
      refine lv_iload hx hb dX6_gutterIsGood_51 (lv_at hl 0 rfl) ?_
      refine lv_imul hx hb dX6_gutterIsGood_53 ?_
      refine lv_icmp_ge (tgt := 61) hx hb dX6_gutterIsGood_54 (by decide) (fun c_54 => ?_) (fun c_54 => ?_)
      · refine lv_iconst (v := 0) hx hb dX6_gutterIsGood_61 (by decide) ?_
        exact W.zret (v := 0) hx hb hret lt_z0 (fun t ht hW => ⟨0, rfl, (by subst e_r_32 e_v_26 e_r_5; exact (Eq.symm (Eq.trans (if_neg c_8) (Eq.trans (if_neg c_40) (Eq.trans (if_pos c_54) rfl))))), ht⟩) (fun _ h => absurd h List.not_mem_nil) dX6_gutterIsGood_62
      · refine lv_iconst (v := 1) hx hb dX6_gutterIsGood_57 (by decide) ?_
        refine lv_goto (tgt := 62) hx hb dX6_gutterIsGood_58 (by decide) ?_
        exact W.zret (v := 1) hx hb hret lt_z1 (fun t ht hW => ⟨1, rfl, (by subst e_r_32 e_v_26 e_r_5; exact (Eq.symm (Eq.trans (if_neg c_8) (Eq.trans (if_neg c_40) (Eq.trans (if_neg c_54) rfl))))), ht⟩) (fun _ h => absurd h List.not_mem_nil) dX6_gutterIsGood_62

def X6_pagesOpen (i : Nat → Int32) (a : Nat → Nat → Int32) : Int32 :=
  let r_1 := X6_openOnLeft i a
  if r_1 = (-5) then
    let r_14 := X7_asNumber 0
    let r_18 := X6_openOnRight i a
    if r_18 = (-5) then
      let r_31 := X7_asNumber 0
      (r_14 + r_31)
    else
      let r_31 := X7_asNumber 1
      (r_14 + r_31)
  else
    let r_14 := X7_asNumber 1
    let r_18 := X6_openOnRight i a
    if r_18 = (-5) then
      let r_31 := X7_asNumber 0
      (r_14 + r_31)
    else
      let r_31 := X7_asNumber 1
      (r_14 + r_31)
set_option maxHeartbeats 4000000 in
set_option maxRecDepth 100000 in
theorem c_X6_pagesOpen (l : Launch) (D : va_G) (yI yC yO : ClassId) (B : Nat → Nat) (i : Nat → Int32) (a : Nat → Nat → Int32) : Met l yX6_pagesOpen wsX6_pagesOpen ({ frames := 2, cells := 0, slots := 0, locals := 60 }) (va_Pc [.ref (B 0)] (lt_R D yI yC yO (lt_St yI B i a))) (lt_Si (X6_pagesOpen i a)) 0 0 (fun _ => False) := by
  refine Met.ofW (cc := cX6_pagesOpen) (maxL := 1) (ret := (some .int)) (by decide) rfl ?_
  intro p e s m args below meth c s₁ B0 hml hv
  obtain ⟨rfl, hP, hK0⟩ := hv
  have hx := B0.exec
  have hb := B0.bytes
  have hret := B0.returns
  have hts := atoms_spec (ws := wsX6_pagesOpen) B0.pre
  have hown : s.vm.findClass RX6 = some m.cls := findClass_of_methodNamed B0.named
  have hlocks := B0.notSynchronized
  have hK := hK0.1
  have hN := hK0.2
  have hP : va_P D vwCl (lt_St yI B i a) s.heap := hP
  have hl := lv_entry ([.ref (B 0)]) (n := 1) (Nat.le_of_ble_eq_true rfl)
  rw [lg_entry_eq]
  generalize (lg_sl ([.ref (B 0)]) ++ List.replicate (1 - (lg_sl ([.ref (B 0)])).length) Slot.unset).toArray = ls at hl ⊢
  have hl : lv_has ls 1 [(0, .ref (B 0))] := hl
  refine lv_aload_n hx hb dX6_pagesOpen_0 rfl (lv_at hl 0 rfl) ?_
  have hPc := hP.sub (ws' := lt_St yI B i a) [0, 1, 2, 3, 4, 5, 6, 7, 8, 9, 10, 11, 12, 13, 14, 15, 16, 17, 18] rfl
  refine lt_cR (va_runV (As := []) (rest := []) ⟨hx, hb, hml, hown, hts⟩ (c_X6_openOnLeft l D yI yC yO B i a ) (cwV 0 hts gX6_pagesOpen_X6_openOnLeft rfl rfl rfl (by decide +kernel) ⟨Nat.le_of_ble_eq_true rfl, Nat.le_of_ble_eq_true rfl⟩) (lt_pV hK0 hPc (va_recv hK hPc (ci := 6) (q0 := 0) rfl rfl)) rfl rfl hl.1 rfl (lv_room (Nat.le_of_ble_eq_true rfl)) dX6_pagesOpen_1 ⟨Nat.zero_le _, Nat.zero_le _⟩) (fun r_1 e_r_1 => ?_)
  refine lv_bipush (v := (-5)) hx hb dX6_pagesOpen_4 (by decide) ?_
  refine lv_icmp_eq (tgt := 13) hx hb dX6_pagesOpen_6 (by decide) (fun c_6 => ?_) (fun c_6 => ?_)
  · refine lv_iconst (v := 0) hx hb dX6_pagesOpen_13 (by decide) ?_
    have hPc := hP.sub (ws' := ([] : va_W)) [] rfl
    refine lt_cR (va_runSN (As := [.int 0]) (rest := []) ⟨hx, hb, hml, hown, hts⟩ (c_X7_asNumber l D yI yC yO 0 ) ⟨va_cnB 1 hts gX6_pagesOpen_X7_asNumber_n116 rfl rfl rfl (hN _ lt_nw34) (hts (.initialized RX7) (by decide +kernel)) (by decide +kernel) ⟨Nat.le_of_ble_eq_true rfl, Nat.le_of_ble_eq_true rfl⟩, hts (.static yX7_asNumber) (by decide +kernel), trivial⟩ (lt_pS hK0 hPc) rfl rfl hl.1 rfl (lv_room (Nat.le_of_ble_eq_true rfl)) dX6_pagesOpen_14 ⟨Nat.zero_le _, Nat.zero_le _⟩) (fun r_14 e_r_14 => ?_)
    refine lv_aload_n hx hb dX6_pagesOpen_17 rfl (lv_at hl 0 rfl) ?_
    have hPc := hP.sub (ws' := lt_St yI B i a) [0, 1, 2, 3, 4, 5, 6, 7, 8, 9, 10, 11, 12, 13, 14, 15, 16, 17, 18] rfl
    refine lt_cR (va_runV (As := []) (rest := [.int r_14]) ⟨hx, hb, hml, hown, hts⟩ (c_X6_openOnRight l D yI yC yO B i a ) (cwV 0 hts gX6_pagesOpen_X6_openOnRight rfl rfl rfl (by decide +kernel) ⟨Nat.le_of_ble_eq_true rfl, Nat.le_of_ble_eq_true rfl⟩) (lt_pV hK0 hPc (va_recv hK hPc (ci := 6) (q0 := 0) rfl rfl)) rfl rfl hl.1 rfl (lv_room (Nat.le_of_ble_eq_true rfl)) dX6_pagesOpen_18 ⟨Nat.zero_le _, Nat.zero_le _⟩) (fun r_18 e_r_18 => ?_)
    refine lv_bipush (v := (-5)) hx hb dX6_pagesOpen_21 (by decide) ?_
    refine lv_icmp_eq (tgt := 30) hx hb dX6_pagesOpen_23 (by decide) (fun c_23 => ?_) (fun c_23 => ?_)
    · refine lv_iconst (v := 0) hx hb dX6_pagesOpen_30 (by decide) ?_
      have hPc := hP.sub (ws' := ([] : va_W)) [] rfl
      refine lt_cR (va_runSN (As := [.int 0]) (rest := [.int r_14]) ⟨hx, hb, hml, hown, hts⟩ (c_X7_asNumber l D yI yC yO 0 ) ⟨va_cnB 1 hts gX6_pagesOpen_X7_asNumber_n116 rfl rfl rfl (hN _ lt_nw34) (hts (.initialized RX7) (by decide +kernel)) (by decide +kernel) ⟨Nat.le_of_ble_eq_true rfl, Nat.le_of_ble_eq_true rfl⟩, hts (.static yX7_asNumber) (by decide +kernel), trivial⟩ (lt_pS hK0 hPc) rfl rfl hl.1 rfl (lv_room (Nat.le_of_ble_eq_true rfl)) dX6_pagesOpen_31 ⟨Nat.zero_le _, Nat.zero_le _⟩) (fun r_31 e_r_31 => ?_)
      refine lv_iadd hx hb dX6_pagesOpen_34 ?_
      exact W.iret (v := (r_14 + r_31)) hx hb hret (fun t ht hW => ⟨(r_14 + r_31), rfl, (by subst e_r_31 e_r_18 e_r_14 e_r_1; exact (Eq.symm (Eq.trans (if_pos c_6) (Eq.trans (if_pos c_23) rfl)))), ht⟩) (fun _ h => absurd h List.not_mem_nil) dX6_pagesOpen_35
    · refine lv_iconst (v := 1) hx hb dX6_pagesOpen_26 (by decide) ?_
      refine lv_goto (tgt := 31) hx hb dX6_pagesOpen_27 (by decide) ?_
      have hPc := hP.sub (ws' := ([] : va_W)) [] rfl
      refine lt_cR (va_runSN (As := [.int 1]) (rest := [.int r_14]) ⟨hx, hb, hml, hown, hts⟩ (c_X7_asNumber l D yI yC yO 1 ) ⟨va_cnB 1 hts gX6_pagesOpen_X7_asNumber_n116 rfl rfl rfl (hN _ lt_nw34) (hts (.initialized RX7) (by decide +kernel)) (by decide +kernel) ⟨Nat.le_of_ble_eq_true rfl, Nat.le_of_ble_eq_true rfl⟩, hts (.static yX7_asNumber) (by decide +kernel), trivial⟩ (lt_pS hK0 hPc) rfl rfl hl.1 rfl (lv_room (Nat.le_of_ble_eq_true rfl)) dX6_pagesOpen_31 ⟨Nat.zero_le _, Nat.zero_le _⟩) (fun r_31 e_r_31 => ?_)
      refine lv_iadd hx hb dX6_pagesOpen_34 ?_
      exact W.iret (v := (r_14 + r_31)) hx hb hret (fun t ht hW => ⟨(r_14 + r_31), rfl, (by subst e_r_31 e_r_18 e_r_14 e_r_1; exact (Eq.symm (Eq.trans (if_pos c_6) (Eq.trans (if_neg c_23) rfl)))), ht⟩) (fun _ h => absurd h List.not_mem_nil) dX6_pagesOpen_35
  · refine lv_iconst (v := 1) hx hb dX6_pagesOpen_9 (by decide) ?_
    refine lv_goto (tgt := 14) hx hb dX6_pagesOpen_10 (by decide) ?_
    have hPc := hP.sub (ws' := ([] : va_W)) [] rfl
    refine lt_cR (va_runSN (As := [.int 1]) (rest := []) ⟨hx, hb, hml, hown, hts⟩ (c_X7_asNumber l D yI yC yO 1 ) ⟨va_cnB 1 hts gX6_pagesOpen_X7_asNumber_n116 rfl rfl rfl (hN _ lt_nw34) (hts (.initialized RX7) (by decide +kernel)) (by decide +kernel) ⟨Nat.le_of_ble_eq_true rfl, Nat.le_of_ble_eq_true rfl⟩, hts (.static yX7_asNumber) (by decide +kernel), trivial⟩ (lt_pS hK0 hPc) rfl rfl hl.1 rfl (lv_room (Nat.le_of_ble_eq_true rfl)) dX6_pagesOpen_14 ⟨Nat.zero_le _, Nat.zero_le _⟩) (fun r_14 e_r_14 => ?_)
    refine lv_aload_n hx hb dX6_pagesOpen_17 rfl (lv_at hl 0 rfl) ?_
    have hPc := hP.sub (ws' := lt_St yI B i a) [0, 1, 2, 3, 4, 5, 6, 7, 8, 9, 10, 11, 12, 13, 14, 15, 16, 17, 18] rfl
    refine lt_cR (va_runV (As := []) (rest := [.int r_14]) ⟨hx, hb, hml, hown, hts⟩ (c_X6_openOnRight l D yI yC yO B i a ) (cwV 0 hts gX6_pagesOpen_X6_openOnRight rfl rfl rfl (by decide +kernel) ⟨Nat.le_of_ble_eq_true rfl, Nat.le_of_ble_eq_true rfl⟩) (lt_pV hK0 hPc (va_recv hK hPc (ci := 6) (q0 := 0) rfl rfl)) rfl rfl hl.1 rfl (lv_room (Nat.le_of_ble_eq_true rfl)) dX6_pagesOpen_18 ⟨Nat.zero_le _, Nat.zero_le _⟩) (fun r_18 e_r_18 => ?_)
    refine lv_bipush (v := (-5)) hx hb dX6_pagesOpen_21 (by decide) ?_
    refine lv_icmp_eq (tgt := 30) hx hb dX6_pagesOpen_23 (by decide) (fun c_23 => ?_) (fun c_23 => ?_)
    · refine lv_iconst (v := 0) hx hb dX6_pagesOpen_30 (by decide) ?_
      have hPc := hP.sub (ws' := ([] : va_W)) [] rfl
      refine lt_cR (va_runSN (As := [.int 0]) (rest := [.int r_14]) ⟨hx, hb, hml, hown, hts⟩ (c_X7_asNumber l D yI yC yO 0 ) ⟨va_cnB 1 hts gX6_pagesOpen_X7_asNumber_n116 rfl rfl rfl (hN _ lt_nw34) (hts (.initialized RX7) (by decide +kernel)) (by decide +kernel) ⟨Nat.le_of_ble_eq_true rfl, Nat.le_of_ble_eq_true rfl⟩, hts (.static yX7_asNumber) (by decide +kernel), trivial⟩ (lt_pS hK0 hPc) rfl rfl hl.1 rfl (lv_room (Nat.le_of_ble_eq_true rfl)) dX6_pagesOpen_31 ⟨Nat.zero_le _, Nat.zero_le _⟩) (fun r_31 e_r_31 => ?_)
      refine lv_iadd hx hb dX6_pagesOpen_34 ?_
      exact W.iret (v := (r_14 + r_31)) hx hb hret (fun t ht hW => ⟨(r_14 + r_31), rfl, (by subst e_r_31 e_r_18 e_r_14 e_r_1; exact (Eq.symm (Eq.trans (if_neg c_6) (Eq.trans (if_pos c_23) rfl)))), ht⟩) (fun _ h => absurd h List.not_mem_nil) dX6_pagesOpen_35
    · refine lv_iconst (v := 1) hx hb dX6_pagesOpen_26 (by decide) ?_
      refine lv_goto (tgt := 31) hx hb dX6_pagesOpen_27 (by decide) ?_
      have hPc := hP.sub (ws' := ([] : va_W)) [] rfl
      refine lt_cR (va_runSN (As := [.int 1]) (rest := [.int r_14]) ⟨hx, hb, hml, hown, hts⟩ (c_X7_asNumber l D yI yC yO 1 ) ⟨va_cnB 1 hts gX6_pagesOpen_X7_asNumber_n116 rfl rfl rfl (hN _ lt_nw34) (hts (.initialized RX7) (by decide +kernel)) (by decide +kernel) ⟨Nat.le_of_ble_eq_true rfl, Nat.le_of_ble_eq_true rfl⟩, hts (.static yX7_asNumber) (by decide +kernel), trivial⟩ (lt_pS hK0 hPc) rfl rfl hl.1 rfl (lv_room (Nat.le_of_ble_eq_true rfl)) dX6_pagesOpen_31 ⟨Nat.zero_le _, Nat.zero_le _⟩) (fun r_31 e_r_31 => ?_)
      refine lv_iadd hx hb dX6_pagesOpen_34 ?_
      exact W.iret (v := (r_14 + r_31)) hx hb hret (fun t ht hW => ⟨(r_14 + r_31), rfl, (by subst e_r_31 e_r_18 e_r_14 e_r_1; exact (Eq.symm (Eq.trans (if_neg c_6) (Eq.trans (if_neg c_23) rfl)))), ht⟩) (fun _ h => absurd h List.not_mem_nil) dX6_pagesOpen_35

def X6_hasRoomForPair (i : Nat → Int32) (a : Nat → Nat → Int32) : Int32 :=
  let r_8 := X6_pagesOpen i a
  if 80 < ((i 2) + r_8) then
    0
  else
    1
theorem iw_X6_hasRoomForPair_6 : ∀ w ∈ wsX60, w ∈ wsX6_hasRoomForPair := by decide +kernel
theorem iw_X6_hasRoomForPair_5 : ∀ w ∈ wsX50, w ∈ wsX6_hasRoomForPair := by decide +kernel
set_option maxHeartbeats 4000000 in
set_option maxRecDepth 100000 in
theorem c_X6_hasRoomForPair (l : Launch) (D : va_G) (yI yC yO : ClassId) (B : Nat → Nat) (i : Nat → Int32) (a : Nat → Nat → Int32) : Met l yX6_hasRoomForPair wsX6_hasRoomForPair ({ frames := 3, cells := 0, slots := 0, locals := 90 }) (va_Pc [.ref (B 0)] (lt_R D yI yC yO (lt_St yI B i a))) (lt_Si (X6_hasRoomForPair i a)) 0 0 (fun _ => False) := by
  refine Met.ofW (cc := cX6_hasRoomForPair) (maxL := 1) (ret := (some .boolean)) (by decide) rfl ?_
  intro p e s m args below meth c s₁ B0 hml hv
  obtain ⟨rfl, hP, hK0⟩ := hv
  have hx := B0.exec
  have hb := B0.bytes
  have hret := B0.returns
  have hts := atoms_spec (ws := wsX6_hasRoomForPair) B0.pre
  have hown : s.vm.findClass RX6 = some m.cls := findClass_of_methodNamed B0.named
  have hlocks := B0.notSynchronized
  have hK := hK0.1
  have hN := hK0.2
  have hP : va_P D vwCl (lt_St yI B i a) s.heap := hP
  have hl := lv_entry ([.ref (B 0)]) (n := 1) (Nat.le_of_ble_eq_true rfl)
  rw [lg_entry_eq]
  generalize (lg_sl ([.ref (B 0)]) ++ List.replicate (1 - (lg_sl ([.ref (B 0)])).length) Slot.unset).toArray = ls at hl ⊢
  have hl : lv_has ls 1 [(0, .ref (B 0))] := hl
  refine lv_aload_n hx hb dX6_hasRoomForPair_0 rfl (lv_at hl 0 rfl) ?_
  refine va_get (D := D) (ci := 6) (v := .ref (B 8)) (C := RX6) (T := TX6) (N := 10) hx hb hts iw_X6_hasRoomForPair_6 hown hK hP 0 rfl rfl 1 (by decide) (hts (.fieldLink RX6 21 "LeafTurner$State" "pictures" "LLeafTurner$Pictures;") (by decide +kernel)) (fun _ h9 => h9) rfl dX6_hasRoomForPair_1 ?_
  refine va_getN (D := D) (ci := 5) (v := .int (i 2)) (C := RX5) (T := TX5) (N := 5) hx hb hts iw_X6_hasRoomForPair_5 hown hK hP 8 rfl rfl 4 (by decide) (va_Nw.use rfl (hN _ lt_nw15)) (fun _ h9 => h9) rfl dX6_hasRoomForPair_4 ?_
  refine lv_aload_n hx hb dX6_hasRoomForPair_7 rfl (lv_at hl 0 rfl) ?_
  have hPc := hP.sub (ws' := lt_St yI B i a) [0, 1, 2, 3, 4, 5, 6, 7, 8, 9, 10, 11, 12, 13, 14, 15, 16, 17, 18] rfl
  refine lt_cR (va_runV (As := []) (rest := [.int (i 2)]) ⟨hx, hb, hml, hown, hts⟩ (c_X6_pagesOpen l D yI yC yO B i a ) (cwV 0 hts gX6_hasRoomForPair_X6_pagesOpen rfl rfl rfl (by decide +kernel) ⟨Nat.le_of_ble_eq_true rfl, Nat.le_of_ble_eq_true rfl⟩) (lt_pV hK0 hPc (va_recv hK hPc (ci := 6) (q0 := 0) rfl rfl)) rfl rfl hl.1 rfl (lv_room (Nat.le_of_ble_eq_true rfl)) dX6_hasRoomForPair_8 ⟨Nat.zero_le _, Nat.zero_le _⟩) (fun r_8 e_r_8 => ?_)
  refine lv_iadd hx hb dX6_hasRoomForPair_11 ?_
  refine lv_bipush (v := 80) hx hb dX6_hasRoomForPair_12 (by decide) ?_
  refine lv_icmp_gt (tgt := 21) hx hb dX6_hasRoomForPair_14 (by decide) (fun c_14 => ?_) (fun c_14 => ?_)
  · refine lv_iconst (v := 0) hx hb dX6_hasRoomForPair_21 (by decide) ?_
    exact W.zret (v := 0) hx hb hret lt_z0 (fun t ht hW => ⟨0, rfl, (by subst e_r_8; exact (Eq.symm (Eq.trans (if_pos c_14) rfl))), ht⟩) (fun _ h => absurd h List.not_mem_nil) dX6_hasRoomForPair_22
  · refine lv_iconst (v := 1) hx hb dX6_hasRoomForPair_17 (by decide) ?_
    refine lv_goto (tgt := 22) hx hb dX6_hasRoomForPair_18 (by decide) ?_
    exact W.zret (v := 1) hx hb hret lt_z1 (fun t ht hW => ⟨1, rfl, (by subst e_r_8; exact (Eq.symm (Eq.trans (if_neg c_14) rfl))), ht⟩) (fun _ h => absurd h List.not_mem_nil) dX6_hasRoomForPair_22

def X6_takePicture (i : Nat → Int32) (a : Nat → Nat → Int32) (p0 : Int32) : (Nat → Int32) × (Nat → Nat → Int32) :=
  let r_2 := X6_gutterIsGood i a p0
  let r_14 := X3_at 60 (a 2) p0
  if r_2 = 0 then
    if r_14 = (-5) then
      let x_44 := X5_add (i 2) (a 3) (a 4) (a 5) (a 6) p0 r_14 r_2 (i 3)
      ((upd i 2 x_44.1), (va_up (va_up (va_up (va_up a 3 x_44.2.1) 4 x_44.2.2.1) 5 x_44.2.2.2.1) 6 x_44.2.2.2.2))
    else
      let x_44 := X5_add (i 2) (a 3) (a 4) (a 5) (a 6) p0 (r_14 / 10) r_2 (i 3)
      ((upd i 2 x_44.1), (va_up (va_up (va_up (va_up a 3 x_44.2.1) 4 x_44.2.2.1) 5 x_44.2.2.2.1) 6 x_44.2.2.2.2))
  else
    let x_44 := X5_add (i 2) (a 3) (a 4) (a 5) (a 6) p0 r_14 r_2 (i 3)
    ((upd i 2 x_44.1), (va_up (va_up (va_up (va_up a 3 x_44.2.1) 4 x_44.2.2.1) 5 x_44.2.2.2.1) 6 x_44.2.2.2.2))
theorem iw_X6_takePicture_6 : ∀ w ∈ wsX60, w ∈ wsX6_takePicture := by decide +kernel
theorem iw_X6_takePicture_0 : ∀ w ∈ wsX00, w ∈ wsX6_takePicture := by decide +kernel
set_option maxHeartbeats 4000000 in
set_option maxRecDepth 100000 in
theorem c_X6_takePicture (l : Launch) (D : va_G) (yI yC yO : ClassId) (B : Nat → Nat) (i : Nat → Int32) (a : Nat → Nat → Int32) (p0 : Int32) (sz : Nat) : Met l yX6_takePicture wsX6_takePicture ({ frames := 3, cells := 0, slots := 0, locals := 90 }) (va_Pc [.ref (B 0), .int p0] (lt_M D yI yC yO (lt_St yI B i a) sz)) (lt_Qv D (X6_takePicture i a p0) (fun u => lt_St yI B u.1 u.2) (va_A (lt_St yI B i a) sz)) 0 0 (va_A (lt_St yI B i a) sz) := by
  refine Met.ofW (cc := cX6_takePicture) (maxL := 4) (ret := none) (by decide) rfl ?_
  intro p e s m args below meth c s₁ B0 hml hv
  obtain ⟨rfl, hsz, hP, hK0, hD0⟩ := hv
  have hx := B0.exec
  have hb := B0.bytes
  have hret := B0.returns
  have hts := atoms_spec (ws := wsX6_takePicture) B0.pre
  have hown : s.vm.findClass RX6 = some m.cls := findClass_of_methodNamed B0.named
  have hlocks := B0.notSynchronized
  have hK := hK0.1
  have hN := hK0.2
  subst hsz
  have hD := hD0.self (sz := s.heap.size)
  generalize hAe : va_A (lt_St yI B i a) s.heap.size = A at hD ⊢
  have hA : ∀ q : Nat, s.heap.size ≤ q → A q := fun q h => by rw [← hAe]; exact Or.inr h
  have hS : va_S A s.heap s.heap [] := va_S.rf
  have hP : va_P D vwCl (lt_St yI B i a) s.heap := hP
  have hD : va_D A (lt_St yI B i a) := hD
  have hl := lv_entry ([.ref (B 0), .int p0]) (n := 4) (Nat.le_of_ble_eq_true rfl)
  rw [lg_entry_eq]
  generalize (lg_sl ([.ref (B 0), .int p0]) ++ List.replicate (4 - (lg_sl ([.ref (B 0), .int p0])).length) Slot.unset).toArray = ls at hl ⊢
  have hl : lv_has ls 4 [(0, .ref (B 0)), (1, .int p0)] := hl
  refine lv_aload_n hx hb dX6_takePicture_0 rfl (lv_at hl 0 rfl) ?_
  refine lv_iload_n hx hb dX6_takePicture_1 rfl (lv_at hl 1 rfl) ?_
  have hPc := hP.sub (ws' := lt_St yI B i a) [0, 1, 2, 3, 4, 5, 6, 7, 8, 9, 10, 11, 12, 13, 14, 15, 16, 17, 18] rfl
  refine lt_cR (va_runV (As := [.int p0]) (rest := []) ⟨hx, hb, hml, hown, hts⟩ (c_X6_gutterIsGood l D yI yC yO B i a p0 ) (cwV 1 hts gX6_takePicture_X6_gutterIsGood rfl rfl rfl (by decide +kernel) ⟨Nat.le_of_ble_eq_true rfl, Nat.le_of_ble_eq_true rfl⟩) (lt_pV hK0 hPc (va_recv hK hPc (ci := 6) (q0 := 0) rfl rfl)) rfl rfl hl.1 rfl (lv_room (Nat.le_of_ble_eq_true rfl)) dX6_takePicture_2 ⟨Nat.zero_le _, Nat.zero_le _⟩) (fun r_2 e_r_2 => ?_)
  refine lv_istore_n (lv' := [(2, .int r_2), (0, .ref (B 0)), (1, .int p0)]) hx hb dX6_takePicture_5 rfl hl (by decide) rfl (fun ls hl => ?_)
  refine lv_aload_n hx hb dX6_takePicture_6 rfl (lv_at hl 1 rfl) ?_
  refine va_get (D := D) (ci := 6) (v := .ref (B 1)) (C := RX6) (T := TX6) (N := 10) hx hb hts iw_X6_takePicture_6 hown hK hP 0 rfl rfl 0 (by decide) (hts (.fieldLink RX6 12 "LeafTurner$State" "book" "LLeafTurner$Book;") (by decide +kernel)) (fun _ h9 => h9) rfl dX6_takePicture_7 ?_
  refine va_getN (D := D) (ci := 0) (v := .ref (B 6)) (C := RX0) (T := TX0) (N := 4) hx hb hts iw_X6_takePicture_0 hown hK hP 1 rfl rfl 2 (by decide) (va_Nw.use rfl (hN _ lt_nw5)) (fun _ h9 => h9) rfl dX6_takePicture_10 ?_
  refine lv_iload_n hx hb dX6_takePicture_13 rfl (lv_at hl 2 rfl) ?_
  have hPc := hP.sub (ws' := lt_N2 yI (B 6) (B 7) 60 (a 2)) [6, 7] rfl
  refine lt_cR (va_runV (As := [.int p0]) (rest := []) ⟨hx, hb, hml, hown, hts⟩ (c_X3_at l D yI yC yO (B 6) (B 7) 60 (a 2) p0 (by decide)) (cwV 1 hts gX6_takePicture_X3_at rfl rfl rfl (by decide +kernel) ⟨Nat.le_of_ble_eq_true rfl, Nat.le_of_ble_eq_true rfl⟩) (lt_pV hK0 hPc (va_recv hK hPc (ci := 3) (q0 := 0) rfl rfl)) rfl rfl hl.1 rfl (lv_room (Nat.le_of_ble_eq_true rfl)) dX6_takePicture_14 ⟨Nat.zero_le _, Nat.zero_le _⟩) (fun r_14 e_r_14 => ?_)
  refine lv_istore_n (lv' := [(3, .int r_14), (2, .int r_2), (0, .ref (B 0)), (1, .int p0)]) hx hb dX6_takePicture_17 rfl hl (by decide) rfl (fun ls hl => ?_)
  refine lv_iload_n hx hb dX6_takePicture_18 rfl (lv_at hl 1 rfl) ?_
  refine lv_if_ne (tgt := 33) hx hb dX6_takePicture_19 (by decide) (fun c_19 => ?_) (fun c_19 => ?_)
  · refine lv_aload_n hx hb dX6_takePicture_33 rfl (lv_at hl 2 rfl) ?_
    refine va_get (D := D) (ci := 6) (v := .ref (B 8)) (C := RX6) (T := TX6) (N := 10) hx hb hts iw_X6_takePicture_6 hown hK hP 0 rfl rfl 1 (by decide) (hts (.fieldLink RX6 21 "LeafTurner$State" "pictures" "LLeafTurner$Pictures;") (by decide +kernel)) (fun _ h9 => h9) rfl dX6_takePicture_34 ?_
    refine lv_iload_n hx hb dX6_takePicture_37 rfl (lv_at hl 3 rfl) ?_
    refine lv_iload_n hx hb dX6_takePicture_38 rfl (lv_at hl 0 rfl) ?_
    refine lv_iload_n hx hb dX6_takePicture_39 rfl (lv_at hl 1 rfl) ?_
    refine lv_aload_n hx hb dX6_takePicture_40 rfl (lv_at hl 2 rfl) ?_
    refine va_get (D := D) (ci := 6) (v := .int (i 3)) (C := RX6) (T := TX6) (N := 10) hx hb hts iw_X6_takePicture_6 hown hK hP 0 rfl rfl 9 (by decide) (hts (.fieldLink RX6 71 "LeafTurner$State" "pairs" "I") (by decide +kernel)) (fun _ h9 => h9) rfl dX6_takePicture_41 ?_
    have hPc := hP.sub (ws' := lt_Ps yI B (i 2) (a 3) (a 4) (a 5) (a 6)) [8, 9, 10, 11, 12, 13, 14, 15, 16] rfl
    have hDc := hD.sub (ws' := lt_Ps yI B (i 2) (a 3) (a 4) (a 5) (a 6)) [8, 9, 10, 11, 12, 13, 14, 15, 16] (by decide) rfl
    refine lt_cWv (wc := lt_Ps yI B (i 2) (a 3) (a 4) (a 5) (a 6)) (wr := [(B 0, .inr (6, [.ref (B 1), .ref (B 8), .ref (B 17), .int (i 1), .int (i 8), .int (i 4), .int (i 5), .int (i 6), .int (i 7), .int (i 3)])), (B 1, .inr (0, [.ref (B 2), .ref (B 4), .ref (B 6), .int (i 0)])), (B 2, .inr (3, [.ref (B 3)])), (B 3, .inl (yI, 30, .inl (a 0))), (B 4, .inr (3, [.ref (B 5)])), (B 5, .inl (yI, 30, .inl (a 1))), (B 6, .inr (3, [.ref (B 7)])), (B 7, .inl (yI, 60, .inl (a 2))), (B 17, .inr (3, [.ref (B 18)])), (B 18, .inl (yI, 3, .inl (a 7)))]) (va_runV (As := [.int p0, .int r_14, .int r_2, .int (i 3)]) (rest := []) ⟨hx, hb, hml, hown, hts⟩ (c_X5_add l D yI yC yO B (i 2) (a 3) (a 4) (a 5) (a 6) p0 r_14 r_2 (i 3) _ ) (cwV 4 hts gX6_takePicture_X5_add rfl rfl rfl (by decide +kernel) ⟨Nat.le_of_ble_eq_true rfl, Nat.le_of_ble_eq_true rfl⟩) (lt_qV hK0 hPc hDc (va_recv hK hPc (ci := 5) (q0 := 0) rfl rfl)) rfl rfl hl.1 rfl (lv_room (Nat.le_of_ble_eq_true rfl)) dX6_takePicture_44 ⟨Nat.zero_le _, Nat.zero_le _⟩) hP hD hS hA [8, 9, 10, 11, 12, 13, 14, 15, 16] [0, 1, 2, 3, 4, 5, 6, 7, 17, 18] rfl rfl (by decide) (by decide) (fun x_44 e_x_44 H locs hP hD hS => ?_)
    have hP := hP.sub (ws' := lt_St yI B (upd i 2 x_44.1) (va_up (va_up (va_up (va_up a 3 x_44.2.1) 4 x_44.2.2.1) 5 x_44.2.2.2.1) 6 x_44.2.2.2.2)) [0, 1, 2, 3, 4, 5, 6, 7, 10, 11, 12, 13, 14, 15, 16, 17, 18, 8, 9] rfl
    have hD := hD.sub (ws' := lt_St yI B (upd i 2 x_44.1) (va_up (va_up (va_up (va_up a 3 x_44.2.1) 4 x_44.2.2.1) 5 x_44.2.2.2.1) 6 x_44.2.2.2.2)) [0, 1, 2, 3, 4, 5, 6, 7, 10, 11, 12, 13, 14, 15, 16, 17, 18, 8, 9] (by decide) rfl
    exact W.vret hx hb hret (fun t ht hW => ⟨⟨((upd i 2 x_44.1), (va_up (va_up (va_up (va_up a 3 x_44.2.1) 4 x_44.2.2.1) 5 x_44.2.2.2.1) 6 x_44.2.2.2.2)), rfl, (by subst e_x_44 e_r_14 e_r_2; exact (Eq.symm (Eq.trans (if_neg c_19) rfl))), by rw [ht]; exact hP, hD⟩, hS.F ht⟩) hS.2.2 dX6_takePicture_47
  · refine lv_iload_n hx hb dX6_takePicture_22 rfl (lv_at hl 0 rfl) ?_
    refine lv_bipush (v := (-5)) hx hb dX6_takePicture_23 (by decide) ?_
    refine lv_icmp_eq (tgt := 33) hx hb dX6_takePicture_25 (by decide) (fun c_25 => ?_) (fun c_25 => ?_)
    · refine lv_aload_n hx hb dX6_takePicture_33 rfl (lv_at hl 2 rfl) ?_
      refine va_get (D := D) (ci := 6) (v := .ref (B 8)) (C := RX6) (T := TX6) (N := 10) hx hb hts iw_X6_takePicture_6 hown hK hP 0 rfl rfl 1 (by decide) (hts (.fieldLink RX6 21 "LeafTurner$State" "pictures" "LLeafTurner$Pictures;") (by decide +kernel)) (fun _ h9 => h9) rfl dX6_takePicture_34 ?_
      refine lv_iload_n hx hb dX6_takePicture_37 rfl (lv_at hl 3 rfl) ?_
      refine lv_iload_n hx hb dX6_takePicture_38 rfl (lv_at hl 0 rfl) ?_
      refine lv_iload_n hx hb dX6_takePicture_39 rfl (lv_at hl 1 rfl) ?_
      refine lv_aload_n hx hb dX6_takePicture_40 rfl (lv_at hl 2 rfl) ?_
      refine va_get (D := D) (ci := 6) (v := .int (i 3)) (C := RX6) (T := TX6) (N := 10) hx hb hts iw_X6_takePicture_6 hown hK hP 0 rfl rfl 9 (by decide) (hts (.fieldLink RX6 71 "LeafTurner$State" "pairs" "I") (by decide +kernel)) (fun _ h9 => h9) rfl dX6_takePicture_41 ?_
      have hPc := hP.sub (ws' := lt_Ps yI B (i 2) (a 3) (a 4) (a 5) (a 6)) [8, 9, 10, 11, 12, 13, 14, 15, 16] rfl
      have hDc := hD.sub (ws' := lt_Ps yI B (i 2) (a 3) (a 4) (a 5) (a 6)) [8, 9, 10, 11, 12, 13, 14, 15, 16] (by decide) rfl
      refine lt_cWv (wc := lt_Ps yI B (i 2) (a 3) (a 4) (a 5) (a 6)) (wr := [(B 0, .inr (6, [.ref (B 1), .ref (B 8), .ref (B 17), .int (i 1), .int (i 8), .int (i 4), .int (i 5), .int (i 6), .int (i 7), .int (i 3)])), (B 1, .inr (0, [.ref (B 2), .ref (B 4), .ref (B 6), .int (i 0)])), (B 2, .inr (3, [.ref (B 3)])), (B 3, .inl (yI, 30, .inl (a 0))), (B 4, .inr (3, [.ref (B 5)])), (B 5, .inl (yI, 30, .inl (a 1))), (B 6, .inr (3, [.ref (B 7)])), (B 7, .inl (yI, 60, .inl (a 2))), (B 17, .inr (3, [.ref (B 18)])), (B 18, .inl (yI, 3, .inl (a 7)))]) (va_runV (As := [.int p0, .int r_14, .int r_2, .int (i 3)]) (rest := []) ⟨hx, hb, hml, hown, hts⟩ (c_X5_add l D yI yC yO B (i 2) (a 3) (a 4) (a 5) (a 6) p0 r_14 r_2 (i 3) _ ) (cwV 4 hts gX6_takePicture_X5_add rfl rfl rfl (by decide +kernel) ⟨Nat.le_of_ble_eq_true rfl, Nat.le_of_ble_eq_true rfl⟩) (lt_qV hK0 hPc hDc (va_recv hK hPc (ci := 5) (q0 := 0) rfl rfl)) rfl rfl hl.1 rfl (lv_room (Nat.le_of_ble_eq_true rfl)) dX6_takePicture_44 ⟨Nat.zero_le _, Nat.zero_le _⟩) hP hD hS hA [8, 9, 10, 11, 12, 13, 14, 15, 16] [0, 1, 2, 3, 4, 5, 6, 7, 17, 18] rfl rfl (by decide) (by decide) (fun x_44 e_x_44 H locs hP hD hS => ?_)
      have hP := hP.sub (ws' := lt_St yI B (upd i 2 x_44.1) (va_up (va_up (va_up (va_up a 3 x_44.2.1) 4 x_44.2.2.1) 5 x_44.2.2.2.1) 6 x_44.2.2.2.2)) [0, 1, 2, 3, 4, 5, 6, 7, 10, 11, 12, 13, 14, 15, 16, 17, 18, 8, 9] rfl
      have hD := hD.sub (ws' := lt_St yI B (upd i 2 x_44.1) (va_up (va_up (va_up (va_up a 3 x_44.2.1) 4 x_44.2.2.1) 5 x_44.2.2.2.1) 6 x_44.2.2.2.2)) [0, 1, 2, 3, 4, 5, 6, 7, 10, 11, 12, 13, 14, 15, 16, 17, 18, 8, 9] (by decide) rfl
      exact W.vret hx hb hret (fun t ht hW => ⟨⟨((upd i 2 x_44.1), (va_up (va_up (va_up (va_up a 3 x_44.2.1) 4 x_44.2.2.1) 5 x_44.2.2.2.1) 6 x_44.2.2.2.2)), rfl, (by subst e_x_44 e_r_14 e_r_2; exact (Eq.symm (Eq.trans (if_pos c_19) (Eq.trans (if_pos c_25) rfl)))), by rw [ht]; exact hP, hD⟩, hS.F ht⟩) hS.2.2 dX6_takePicture_47
    · refine lv_iload_n hx hb dX6_takePicture_28 rfl (lv_at hl 0 rfl) ?_
      refine lv_bipush (v := 10) hx hb dX6_takePicture_29 (by decide) ?_
      refine lv_idiv hx hb dX6_takePicture_31 (by decide) ?_
      refine lv_istore_n (lv' := [(3, .int (r_14 / 10)), (2, .int r_2), (0, .ref (B 0)), (1, .int p0)]) hx hb dX6_takePicture_32 rfl hl (by decide) rfl (fun ls hl => ?_)
      refine lv_aload_n hx hb dX6_takePicture_33 rfl (lv_at hl 2 rfl) ?_
      refine va_get (D := D) (ci := 6) (v := .ref (B 8)) (C := RX6) (T := TX6) (N := 10) hx hb hts iw_X6_takePicture_6 hown hK hP 0 rfl rfl 1 (by decide) (hts (.fieldLink RX6 21 "LeafTurner$State" "pictures" "LLeafTurner$Pictures;") (by decide +kernel)) (fun _ h9 => h9) rfl dX6_takePicture_34 ?_
      refine lv_iload_n hx hb dX6_takePicture_37 rfl (lv_at hl 3 rfl) ?_
      refine lv_iload_n hx hb dX6_takePicture_38 rfl (lv_at hl 0 rfl) ?_
      refine lv_iload_n hx hb dX6_takePicture_39 rfl (lv_at hl 1 rfl) ?_
      refine lv_aload_n hx hb dX6_takePicture_40 rfl (lv_at hl 2 rfl) ?_
      refine va_get (D := D) (ci := 6) (v := .int (i 3)) (C := RX6) (T := TX6) (N := 10) hx hb hts iw_X6_takePicture_6 hown hK hP 0 rfl rfl 9 (by decide) (hts (.fieldLink RX6 71 "LeafTurner$State" "pairs" "I") (by decide +kernel)) (fun _ h9 => h9) rfl dX6_takePicture_41 ?_
      have hPc := hP.sub (ws' := lt_Ps yI B (i 2) (a 3) (a 4) (a 5) (a 6)) [8, 9, 10, 11, 12, 13, 14, 15, 16] rfl
      have hDc := hD.sub (ws' := lt_Ps yI B (i 2) (a 3) (a 4) (a 5) (a 6)) [8, 9, 10, 11, 12, 13, 14, 15, 16] (by decide) rfl
      refine lt_cWv (wc := lt_Ps yI B (i 2) (a 3) (a 4) (a 5) (a 6)) (wr := [(B 0, .inr (6, [.ref (B 1), .ref (B 8), .ref (B 17), .int (i 1), .int (i 8), .int (i 4), .int (i 5), .int (i 6), .int (i 7), .int (i 3)])), (B 1, .inr (0, [.ref (B 2), .ref (B 4), .ref (B 6), .int (i 0)])), (B 2, .inr (3, [.ref (B 3)])), (B 3, .inl (yI, 30, .inl (a 0))), (B 4, .inr (3, [.ref (B 5)])), (B 5, .inl (yI, 30, .inl (a 1))), (B 6, .inr (3, [.ref (B 7)])), (B 7, .inl (yI, 60, .inl (a 2))), (B 17, .inr (3, [.ref (B 18)])), (B 18, .inl (yI, 3, .inl (a 7)))]) (va_runV (As := [.int p0, .int (r_14 / 10), .int r_2, .int (i 3)]) (rest := []) ⟨hx, hb, hml, hown, hts⟩ (c_X5_add l D yI yC yO B (i 2) (a 3) (a 4) (a 5) (a 6) p0 (r_14 / 10) r_2 (i 3) _ ) (cwV 4 hts gX6_takePicture_X5_add rfl rfl rfl (by decide +kernel) ⟨Nat.le_of_ble_eq_true rfl, Nat.le_of_ble_eq_true rfl⟩) (lt_qV hK0 hPc hDc (va_recv hK hPc (ci := 5) (q0 := 0) rfl rfl)) rfl rfl hl.1 rfl (lv_room (Nat.le_of_ble_eq_true rfl)) dX6_takePicture_44 ⟨Nat.zero_le _, Nat.zero_le _⟩) hP hD hS hA [8, 9, 10, 11, 12, 13, 14, 15, 16] [0, 1, 2, 3, 4, 5, 6, 7, 17, 18] rfl rfl (by decide) (by decide) (fun x_44 e_x_44 H locs hP hD hS => ?_)
      have hP := hP.sub (ws' := lt_St yI B (upd i 2 x_44.1) (va_up (va_up (va_up (va_up a 3 x_44.2.1) 4 x_44.2.2.1) 5 x_44.2.2.2.1) 6 x_44.2.2.2.2)) [0, 1, 2, 3, 4, 5, 6, 7, 10, 11, 12, 13, 14, 15, 16, 17, 18, 8, 9] rfl
      have hD := hD.sub (ws' := lt_St yI B (upd i 2 x_44.1) (va_up (va_up (va_up (va_up a 3 x_44.2.1) 4 x_44.2.2.1) 5 x_44.2.2.2.1) 6 x_44.2.2.2.2)) [0, 1, 2, 3, 4, 5, 6, 7, 10, 11, 12, 13, 14, 15, 16, 17, 18, 8, 9] (by decide) rfl
      exact W.vret hx hb hret (fun t ht hW => ⟨⟨((upd i 2 x_44.1), (va_up (va_up (va_up (va_up a 3 x_44.2.1) 4 x_44.2.2.1) 5 x_44.2.2.2.1) 6 x_44.2.2.2.2)), rfl, (by subst e_x_44 e_r_14 e_r_2; exact (Eq.symm (Eq.trans (if_pos c_19) (Eq.trans (if_neg c_25) rfl)))), by rw [ht]; exact hP, hD⟩, hS.F ht⟩) hS.2.2 dX6_takePicture_47

def X6_takePair (i : Nat → Int32) (a : Nat → Nat → Int32) : Int32 × ((Nat → Int32) × (Nat → Nat → Int32)) :=
  let r_1 := X6_pagesOpen i a
  let r_6 := X6_openOnLeft i a
  if r_6 = (-5) then
    let r_23 := X6_openOnRight i a
    if r_23 = (-5) then
      (r_1, ((upd i 3 ((i 3) + 1)), a))
    else
      let r_33 := X6_openOnRight i a
      let x_36 := X6_takePicture i a r_33
      (r_1, ((upd x_36.1 3 ((x_36.1 3) + 1)), x_36.2))
  else
    let r_16 := X6_openOnLeft i a
    let x_19 := X6_takePicture i a r_16
    let r_23 := X6_openOnRight x_19.1 x_19.2
    if r_23 = (-5) then
      (r_1, ((upd x_19.1 3 ((x_19.1 3) + 1)), x_19.2))
    else
      let r_33 := X6_openOnRight x_19.1 x_19.2
      let x_36 := X6_takePicture x_19.1 x_19.2 r_33
      (r_1, ((upd x_36.1 3 ((x_36.1 3) + 1)), x_36.2))
theorem iw_X6_takePair_6 : ∀ w ∈ wsX60, w ∈ wsX6_takePair := by decide +kernel
set_option maxHeartbeats 4000000 in
set_option maxRecDepth 100000 in
theorem c_X6_takePair (l : Launch) (D : va_G) (yI yC yO : ClassId) (B : Nat → Nat) (i : Nat → Int32) (a : Nat → Nat → Int32) (sz : Nat) : Met l yX6_takePair wsX6_takePair ({ frames := 4, cells := 0, slots := 0, locals := 120 }) (va_Pc [.ref (B 0)] (lt_M D yI yC yO (lt_St yI B i a) sz)) (lt_Qi D (X6_takePair i a) (fun u => lt_St yI B u.1 u.2) (va_A (lt_St yI B i a) sz)) 0 0 (va_A (lt_St yI B i a) sz) := by
  refine Met.ofW (cc := cX6_takePair) (maxL := 2) (ret := (some .int)) (by decide) rfl ?_
  intro p e s m args below meth c s₁ B0 hml hv
  obtain ⟨rfl, hsz, hP, hK0, hD0⟩ := hv
  have hx := B0.exec
  have hb := B0.bytes
  have hret := B0.returns
  have hts := atoms_spec (ws := wsX6_takePair) B0.pre
  have hown : s.vm.findClass RX6 = some m.cls := findClass_of_methodNamed B0.named
  have hlocks := B0.notSynchronized
  have hK := hK0.1
  have hN := hK0.2
  subst hsz
  have hD := hD0.self (sz := s.heap.size)
  generalize hAe : va_A (lt_St yI B i a) s.heap.size = A at hD ⊢
  have hA : ∀ q : Nat, s.heap.size ≤ q → A q := fun q h => by rw [← hAe]; exact Or.inr h
  have hS : va_S A s.heap s.heap [] := va_S.rf
  have hP : va_P D vwCl (lt_St yI B i a) s.heap := hP
  have hD : va_D A (lt_St yI B i a) := hD
  have hl := lv_entry ([.ref (B 0)]) (n := 2) (Nat.le_of_ble_eq_true rfl)
  rw [lg_entry_eq]
  generalize (lg_sl ([.ref (B 0)]) ++ List.replicate (2 - (lg_sl ([.ref (B 0)])).length) Slot.unset).toArray = ls at hl ⊢
  have hl : lv_has ls 2 [(0, .ref (B 0))] := hl
  refine lv_aload_n hx hb dX6_takePair_0 rfl (lv_at hl 0 rfl) ?_
  have hPc := hP.sub (ws' := lt_St yI B i a) [0, 1, 2, 3, 4, 5, 6, 7, 8, 9, 10, 11, 12, 13, 14, 15, 16, 17, 18] rfl
  refine lt_cR (va_runV (As := []) (rest := []) ⟨hx, hb, hml, hown, hts⟩ (c_X6_pagesOpen l D yI yC yO B i a ) (cwV 0 hts gX6_takePair_X6_pagesOpen rfl rfl rfl (by decide +kernel) ⟨Nat.le_of_ble_eq_true rfl, Nat.le_of_ble_eq_true rfl⟩) (lt_pV hK0 hPc (va_recv hK hPc (ci := 6) (q0 := 0) rfl rfl)) rfl rfl hl.1 rfl (lv_room (Nat.le_of_ble_eq_true rfl)) dX6_takePair_1 ⟨Nat.zero_le _, Nat.zero_le _⟩) (fun r_1 e_r_1 => ?_)
  refine lv_istore_n (lv' := [(1, .int r_1), (0, .ref (B 0))]) hx hb dX6_takePair_4 rfl hl (by decide) rfl (fun ls hl => ?_)
  refine lv_aload_n hx hb dX6_takePair_5 rfl (lv_at hl 1 rfl) ?_
  have hPc := hP.sub (ws' := lt_St yI B i a) [0, 1, 2, 3, 4, 5, 6, 7, 8, 9, 10, 11, 12, 13, 14, 15, 16, 17, 18] rfl
  refine lt_cR (va_runV (As := []) (rest := []) ⟨hx, hb, hml, hown, hts⟩ (c_X6_openOnLeft l D yI yC yO B i a ) (cwV 0 hts gX6_takePair_X6_openOnLeft rfl rfl rfl (by decide +kernel) ⟨Nat.le_of_ble_eq_true rfl, Nat.le_of_ble_eq_true rfl⟩) (lt_pV hK0 hPc (va_recv hK hPc (ci := 6) (q0 := 0) rfl rfl)) rfl rfl hl.1 rfl (lv_room (Nat.le_of_ble_eq_true rfl)) dX6_takePair_6 ⟨Nat.zero_le _, Nat.zero_le _⟩) (fun r_6 e_r_6 => ?_)
  refine lv_bipush (v := (-5)) hx hb dX6_takePair_9 (by decide) ?_
  refine lv_icmp_eq (tgt := 22) hx hb dX6_takePair_11 (by decide) (fun c_11 => ?_) (fun c_11 => ?_)
  · refine lv_aload_n hx hb dX6_takePair_22 rfl (lv_at hl 1 rfl) ?_
    have hPc := hP.sub (ws' := lt_St yI B i a) [0, 1, 2, 3, 4, 5, 6, 7, 8, 9, 10, 11, 12, 13, 14, 15, 16, 17, 18] rfl
    refine lt_cR (va_runV (As := []) (rest := []) ⟨hx, hb, hml, hown, hts⟩ (c_X6_openOnRight l D yI yC yO B i a ) (cwV 0 hts gX6_takePair_X6_openOnRight rfl rfl rfl (by decide +kernel) ⟨Nat.le_of_ble_eq_true rfl, Nat.le_of_ble_eq_true rfl⟩) (lt_pV hK0 hPc (va_recv hK hPc (ci := 6) (q0 := 0) rfl rfl)) rfl rfl hl.1 rfl (lv_room (Nat.le_of_ble_eq_true rfl)) dX6_takePair_23 ⟨Nat.zero_le _, Nat.zero_le _⟩) (fun r_23 e_r_23 => ?_)
    refine lv_bipush (v := (-5)) hx hb dX6_takePair_26 (by decide) ?_
    refine lv_icmp_eq (tgt := 39) hx hb dX6_takePair_28 (by decide) (fun c_28 => ?_) (fun c_28 => ?_)
    · refine lv_aload_n hx hb dX6_takePair_39 rfl (lv_at hl 1 rfl) ?_
      refine lv_dup hx hb dX6_takePair_40 rfl ?_
      refine va_get (D := D) (ci := 6) (v := .int (i 3)) (C := RX6) (T := TX6) (N := 10) hx hb hts iw_X6_takePair_6 hown hK hP 0 rfl rfl 9 (by decide) (hts (.fieldLink RX6 71 "LeafTurner$State" "pairs" "I") (by decide +kernel)) (fun _ h9 => h9) rfl dX6_takePair_41 ?_
      refine lv_iconst (v := 1) hx hb dX6_takePair_44 (by decide) ?_
      refine lv_iadd hx hb dX6_takePair_45 ?_
      refine va_put (D := D) (ci := 6) (v := .int ((i 3) + 1)) (ty := .int) (C := RX6) (T := TX6) (N := 10) hx hb hts iw_X6_takePair_6 tyX6 tyX6_ok nmX6 hown hK hP hD hS 0 rfl rfl 9 (by decide) (hts (.fieldLink RX6 71 "LeafTurner$State" "pairs" "I") (by decide +kernel)) (fun _ h9 => h9) rfl (by decide +kernel) rfl rfl (Nat.le_of_ble_eq_true rfl) dX6_takePair_46 (fun H locs hP hD hS => ?_)
      have hP : va_P D vwCl (lt_St yI B (upd i 3 ((i 3) + 1)) a) H := hP
      have hD : va_D A (lt_St yI B (upd i 3 ((i 3) + 1)) a) := hD
      refine lv_iload_n hx hb dX6_takePair_49 rfl (lv_at hl 0 rfl) ?_
      exact W.iret (v := r_1) hx hb hret (fun t ht hW => ⟨⟨r_1, ((upd i 3 ((i 3) + 1)), a), rfl, (by subst e_r_23 e_r_6 e_r_1; exact (Eq.symm (Eq.trans (if_pos c_11) (Eq.trans (if_pos c_28) rfl)))), by rw [ht]; exact hP, hD⟩, hS.F ht⟩) hS.2.2 dX6_takePair_50
    · refine lv_aload_n hx hb dX6_takePair_31 rfl (lv_at hl 1 rfl) ?_
      refine lv_aload_n hx hb dX6_takePair_32 rfl (lv_at hl 1 rfl) ?_
      have hPc := hP.sub (ws' := lt_St yI B i a) [0, 1, 2, 3, 4, 5, 6, 7, 8, 9, 10, 11, 12, 13, 14, 15, 16, 17, 18] rfl
      refine lt_cR (va_runV (As := []) (rest := [.ref (B 0)]) ⟨hx, hb, hml, hown, hts⟩ (c_X6_openOnRight l D yI yC yO B i a ) (cwV 0 hts gX6_takePair_X6_openOnRight rfl rfl rfl (by decide +kernel) ⟨Nat.le_of_ble_eq_true rfl, Nat.le_of_ble_eq_true rfl⟩) (lt_pV hK0 hPc (va_recv hK hPc (ci := 6) (q0 := 0) rfl rfl)) rfl rfl hl.1 rfl (lv_room (Nat.le_of_ble_eq_true rfl)) dX6_takePair_33 ⟨Nat.zero_le _, Nat.zero_le _⟩) (fun r_33 e_r_33 => ?_)
      have hPc := hP.sub (ws' := lt_St yI B i a) [0, 1, 2, 3, 4, 5, 6, 7, 8, 9, 10, 11, 12, 13, 14, 15, 16, 17, 18] rfl
      have hDc := hD.sub (ws' := lt_St yI B i a) [0, 1, 2, 3, 4, 5, 6, 7, 8, 9, 10, 11, 12, 13, 14, 15, 16, 17, 18] (by decide) rfl
      refine lt_cWv (wc := lt_St yI B i a) (wr := []) (va_runV (As := [.int r_33]) (rest := []) ⟨hx, hb, hml, hown, hts⟩ (c_X6_takePicture l D yI yC yO B i a r_33 _ ) (cwV 1 hts gX6_takePair_X6_takePicture rfl rfl rfl (by decide +kernel) ⟨Nat.le_of_ble_eq_true rfl, Nat.le_of_ble_eq_true rfl⟩) (lt_qV hK0 hPc hDc (va_recv hK hPc (ci := 6) (q0 := 0) rfl rfl)) rfl rfl hl.1 rfl (lv_room (Nat.le_of_ble_eq_true rfl)) dX6_takePair_36 ⟨Nat.zero_le _, Nat.zero_le _⟩) hP hD hS hA [0, 1, 2, 3, 4, 5, 6, 7, 8, 9, 10, 11, 12, 13, 14, 15, 16, 17, 18] [] rfl rfl (by decide) (by decide) (fun x_36 e_x_36 H locs hP hD hS => ?_)
      have hP := hP.sub (ws' := lt_St yI B x_36.1 x_36.2) [0, 1, 2, 3, 4, 5, 6, 7, 8, 9, 10, 11, 12, 13, 14, 15, 16, 17, 18] rfl
      have hD := hD.sub (ws' := lt_St yI B x_36.1 x_36.2) [0, 1, 2, 3, 4, 5, 6, 7, 8, 9, 10, 11, 12, 13, 14, 15, 16, 17, 18] (by decide) rfl
      refine lv_aload_n hx hb dX6_takePair_39 rfl (lv_at hl 1 rfl) ?_
      refine lv_dup hx hb dX6_takePair_40 rfl ?_
      refine va_get (D := D) (ci := 6) (v := .int (x_36.1 3)) (C := RX6) (T := TX6) (N := 10) hx hb hts iw_X6_takePair_6 hown hK hP 0 rfl rfl 9 (by decide) (hts (.fieldLink RX6 71 "LeafTurner$State" "pairs" "I") (by decide +kernel)) (fun _ h9 => h9) rfl dX6_takePair_41 ?_
      refine lv_iconst (v := 1) hx hb dX6_takePair_44 (by decide) ?_
      refine lv_iadd hx hb dX6_takePair_45 ?_
      refine va_put (D := D) (ci := 6) (v := .int ((x_36.1 3) + 1)) (ty := .int) (C := RX6) (T := TX6) (N := 10) hx hb hts iw_X6_takePair_6 tyX6 tyX6_ok nmX6 hown hK hP hD hS 0 rfl rfl 9 (by decide) (hts (.fieldLink RX6 71 "LeafTurner$State" "pairs" "I") (by decide +kernel)) (fun _ h9 => h9) rfl (by decide +kernel) rfl rfl (Nat.le_of_ble_eq_true rfl) dX6_takePair_46 (fun H locs hP hD hS => ?_)
      have hP : va_P D vwCl (lt_St yI B (upd x_36.1 3 ((x_36.1 3) + 1)) x_36.2) H := hP
      have hD : va_D A (lt_St yI B (upd x_36.1 3 ((x_36.1 3) + 1)) x_36.2) := hD
      refine lv_iload_n hx hb dX6_takePair_49 rfl (lv_at hl 0 rfl) ?_
      exact W.iret (v := r_1) hx hb hret (fun t ht hW => ⟨⟨r_1, ((upd x_36.1 3 ((x_36.1 3) + 1)), x_36.2), rfl, (by subst e_x_36 e_r_33 e_r_23 e_r_6 e_r_1; exact (Eq.symm (Eq.trans (if_pos c_11) (Eq.trans (if_neg c_28) rfl)))), by rw [ht]; exact hP, hD⟩, hS.F ht⟩) hS.2.2 dX6_takePair_50
  · refine lv_aload_n hx hb dX6_takePair_14 rfl (lv_at hl 1 rfl) ?_
    refine lv_aload_n hx hb dX6_takePair_15 rfl (lv_at hl 1 rfl) ?_
    have hPc := hP.sub (ws' := lt_St yI B i a) [0, 1, 2, 3, 4, 5, 6, 7, 8, 9, 10, 11, 12, 13, 14, 15, 16, 17, 18] rfl
    refine lt_cR (va_runV (As := []) (rest := [.ref (B 0)]) ⟨hx, hb, hml, hown, hts⟩ (c_X6_openOnLeft l D yI yC yO B i a ) (cwV 0 hts gX6_takePair_X6_openOnLeft rfl rfl rfl (by decide +kernel) ⟨Nat.le_of_ble_eq_true rfl, Nat.le_of_ble_eq_true rfl⟩) (lt_pV hK0 hPc (va_recv hK hPc (ci := 6) (q0 := 0) rfl rfl)) rfl rfl hl.1 rfl (lv_room (Nat.le_of_ble_eq_true rfl)) dX6_takePair_16 ⟨Nat.zero_le _, Nat.zero_le _⟩) (fun r_16 e_r_16 => ?_)
    have hPc := hP.sub (ws' := lt_St yI B i a) [0, 1, 2, 3, 4, 5, 6, 7, 8, 9, 10, 11, 12, 13, 14, 15, 16, 17, 18] rfl
    have hDc := hD.sub (ws' := lt_St yI B i a) [0, 1, 2, 3, 4, 5, 6, 7, 8, 9, 10, 11, 12, 13, 14, 15, 16, 17, 18] (by decide) rfl
    refine lt_cWv (wc := lt_St yI B i a) (wr := []) (va_runV (As := [.int r_16]) (rest := []) ⟨hx, hb, hml, hown, hts⟩ (c_X6_takePicture l D yI yC yO B i a r_16 _ ) (cwV 1 hts gX6_takePair_X6_takePicture rfl rfl rfl (by decide +kernel) ⟨Nat.le_of_ble_eq_true rfl, Nat.le_of_ble_eq_true rfl⟩) (lt_qV hK0 hPc hDc (va_recv hK hPc (ci := 6) (q0 := 0) rfl rfl)) rfl rfl hl.1 rfl (lv_room (Nat.le_of_ble_eq_true rfl)) dX6_takePair_19 ⟨Nat.zero_le _, Nat.zero_le _⟩) hP hD hS hA [0, 1, 2, 3, 4, 5, 6, 7, 8, 9, 10, 11, 12, 13, 14, 15, 16, 17, 18] [] rfl rfl (by decide) (by decide) (fun x_19 e_x_19 H locs hP hD hS => ?_)
    have hP := hP.sub (ws' := lt_St yI B x_19.1 x_19.2) [0, 1, 2, 3, 4, 5, 6, 7, 8, 9, 10, 11, 12, 13, 14, 15, 16, 17, 18] rfl
    have hD := hD.sub (ws' := lt_St yI B x_19.1 x_19.2) [0, 1, 2, 3, 4, 5, 6, 7, 8, 9, 10, 11, 12, 13, 14, 15, 16, 17, 18] (by decide) rfl
    refine lv_aload_n hx hb dX6_takePair_22 rfl (lv_at hl 1 rfl) ?_
    have hPc := hP.sub (ws' := lt_St yI B x_19.1 x_19.2) [0, 1, 2, 3, 4, 5, 6, 7, 8, 9, 10, 11, 12, 13, 14, 15, 16, 17, 18] rfl
    refine lt_cR (va_runV (As := []) (rest := []) ⟨hx, hb, hml, hown, hts⟩ (c_X6_openOnRight l D yI yC yO B x_19.1 x_19.2 ) (cwV 0 hts gX6_takePair_X6_openOnRight rfl rfl rfl (by decide +kernel) ⟨Nat.le_of_ble_eq_true rfl, Nat.le_of_ble_eq_true rfl⟩) (lt_pV hK0 hPc (va_recv hK hPc (ci := 6) (q0 := 0) rfl rfl)) rfl rfl hl.1 rfl (lv_room (Nat.le_of_ble_eq_true rfl)) dX6_takePair_23 ⟨Nat.zero_le _, Nat.zero_le _⟩) (fun r_23 e_r_23 => ?_)
    refine lv_bipush (v := (-5)) hx hb dX6_takePair_26 (by decide) ?_
    refine lv_icmp_eq (tgt := 39) hx hb dX6_takePair_28 (by decide) (fun c_28 => ?_) (fun c_28 => ?_)
    · refine lv_aload_n hx hb dX6_takePair_39 rfl (lv_at hl 1 rfl) ?_
      refine lv_dup hx hb dX6_takePair_40 rfl ?_
      refine va_get (D := D) (ci := 6) (v := .int (x_19.1 3)) (C := RX6) (T := TX6) (N := 10) hx hb hts iw_X6_takePair_6 hown hK hP 0 rfl rfl 9 (by decide) (hts (.fieldLink RX6 71 "LeafTurner$State" "pairs" "I") (by decide +kernel)) (fun _ h9 => h9) rfl dX6_takePair_41 ?_
      refine lv_iconst (v := 1) hx hb dX6_takePair_44 (by decide) ?_
      refine lv_iadd hx hb dX6_takePair_45 ?_
      refine va_put (D := D) (ci := 6) (v := .int ((x_19.1 3) + 1)) (ty := .int) (C := RX6) (T := TX6) (N := 10) hx hb hts iw_X6_takePair_6 tyX6 tyX6_ok nmX6 hown hK hP hD hS 0 rfl rfl 9 (by decide) (hts (.fieldLink RX6 71 "LeafTurner$State" "pairs" "I") (by decide +kernel)) (fun _ h9 => h9) rfl (by decide +kernel) rfl rfl (Nat.le_of_ble_eq_true rfl) dX6_takePair_46 (fun H locs hP hD hS => ?_)
      have hP : va_P D vwCl (lt_St yI B (upd x_19.1 3 ((x_19.1 3) + 1)) x_19.2) H := hP
      have hD : va_D A (lt_St yI B (upd x_19.1 3 ((x_19.1 3) + 1)) x_19.2) := hD
      refine lv_iload_n hx hb dX6_takePair_49 rfl (lv_at hl 0 rfl) ?_
      exact W.iret (v := r_1) hx hb hret (fun t ht hW => ⟨⟨r_1, ((upd x_19.1 3 ((x_19.1 3) + 1)), x_19.2), rfl, (by subst e_r_23 e_x_19 e_r_16 e_r_6 e_r_1; exact (Eq.symm (Eq.trans (if_neg c_11) (Eq.trans (if_pos c_28) rfl)))), by rw [ht]; exact hP, hD⟩, hS.F ht⟩) hS.2.2 dX6_takePair_50
    · refine lv_aload_n hx hb dX6_takePair_31 rfl (lv_at hl 1 rfl) ?_
      refine lv_aload_n hx hb dX6_takePair_32 rfl (lv_at hl 1 rfl) ?_
      have hPc := hP.sub (ws' := lt_St yI B x_19.1 x_19.2) [0, 1, 2, 3, 4, 5, 6, 7, 8, 9, 10, 11, 12, 13, 14, 15, 16, 17, 18] rfl
      refine lt_cR (va_runV (As := []) (rest := [.ref (B 0)]) ⟨hx, hb, hml, hown, hts⟩ (c_X6_openOnRight l D yI yC yO B x_19.1 x_19.2 ) (cwV 0 hts gX6_takePair_X6_openOnRight rfl rfl rfl (by decide +kernel) ⟨Nat.le_of_ble_eq_true rfl, Nat.le_of_ble_eq_true rfl⟩) (lt_pV hK0 hPc (va_recv hK hPc (ci := 6) (q0 := 0) rfl rfl)) rfl rfl hl.1 rfl (lv_room (Nat.le_of_ble_eq_true rfl)) dX6_takePair_33 ⟨Nat.zero_le _, Nat.zero_le _⟩) (fun r_33 e_r_33 => ?_)
      have hPc := hP.sub (ws' := lt_St yI B x_19.1 x_19.2) [0, 1, 2, 3, 4, 5, 6, 7, 8, 9, 10, 11, 12, 13, 14, 15, 16, 17, 18] rfl
      have hDc := hD.sub (ws' := lt_St yI B x_19.1 x_19.2) [0, 1, 2, 3, 4, 5, 6, 7, 8, 9, 10, 11, 12, 13, 14, 15, 16, 17, 18] (by decide) rfl
      refine lt_cWv (wc := lt_St yI B x_19.1 x_19.2) (wr := []) (va_runV (As := [.int r_33]) (rest := []) ⟨hx, hb, hml, hown, hts⟩ (c_X6_takePicture l D yI yC yO B x_19.1 x_19.2 r_33 _ ) (cwV 1 hts gX6_takePair_X6_takePicture rfl rfl rfl (by decide +kernel) ⟨Nat.le_of_ble_eq_true rfl, Nat.le_of_ble_eq_true rfl⟩) (lt_qV hK0 hPc hDc (va_recv hK hPc (ci := 6) (q0 := 0) rfl rfl)) rfl rfl hl.1 rfl (lv_room (Nat.le_of_ble_eq_true rfl)) dX6_takePair_36 ⟨Nat.zero_le _, Nat.zero_le _⟩) hP hD hS hA [0, 1, 2, 3, 4, 5, 6, 7, 8, 9, 10, 11, 12, 13, 14, 15, 16, 17, 18] [] rfl rfl (by decide) (by decide) (fun x_36 e_x_36 H locs hP hD hS => ?_)
      have hP := hP.sub (ws' := lt_St yI B x_36.1 x_36.2) [0, 1, 2, 3, 4, 5, 6, 7, 8, 9, 10, 11, 12, 13, 14, 15, 16, 17, 18] rfl
      have hD := hD.sub (ws' := lt_St yI B x_36.1 x_36.2) [0, 1, 2, 3, 4, 5, 6, 7, 8, 9, 10, 11, 12, 13, 14, 15, 16, 17, 18] (by decide) rfl
      refine lv_aload_n hx hb dX6_takePair_39 rfl (lv_at hl 1 rfl) ?_
      refine lv_dup hx hb dX6_takePair_40 rfl ?_
      refine va_get (D := D) (ci := 6) (v := .int (x_36.1 3)) (C := RX6) (T := TX6) (N := 10) hx hb hts iw_X6_takePair_6 hown hK hP 0 rfl rfl 9 (by decide) (hts (.fieldLink RX6 71 "LeafTurner$State" "pairs" "I") (by decide +kernel)) (fun _ h9 => h9) rfl dX6_takePair_41 ?_
      refine lv_iconst (v := 1) hx hb dX6_takePair_44 (by decide) ?_
      refine lv_iadd hx hb dX6_takePair_45 ?_
      refine va_put (D := D) (ci := 6) (v := .int ((x_36.1 3) + 1)) (ty := .int) (C := RX6) (T := TX6) (N := 10) hx hb hts iw_X6_takePair_6 tyX6 tyX6_ok nmX6 hown hK hP hD hS 0 rfl rfl 9 (by decide) (hts (.fieldLink RX6 71 "LeafTurner$State" "pairs" "I") (by decide +kernel)) (fun _ h9 => h9) rfl (by decide +kernel) rfl rfl (Nat.le_of_ble_eq_true rfl) dX6_takePair_46 (fun H locs hP hD hS => ?_)
      have hP : va_P D vwCl (lt_St yI B (upd x_36.1 3 ((x_36.1 3) + 1)) x_36.2) H := hP
      have hD : va_D A (lt_St yI B (upd x_36.1 3 ((x_36.1 3) + 1)) x_36.2) := hD
      refine lv_iload_n hx hb dX6_takePair_49 rfl (lv_at hl 0 rfl) ?_
      exact W.iret (v := r_1) hx hb hret (fun t ht hW => ⟨⟨r_1, ((upd x_36.1 3 ((x_36.1 3) + 1)), x_36.2), rfl, (by subst e_x_36 e_r_33 e_r_23 e_x_19 e_r_16 e_r_6 e_r_1; exact (Eq.symm (Eq.trans (if_neg c_11) (Eq.trans (if_neg c_28) rfl)))), by rw [ht]; exact hP, hD⟩, hS.F ht⟩) hS.2.2 dX6_takePair_50

def X6_takeAndTurn_L4 (i : Nat → Int32) (a : Nat → Nat → Int32) (p0 : Int32) : Nat → (Int32) → (Int32) → (Nat → Int32) → (Nat → Nat → Int32) → Int32 × ((Nat → Int32) × (Nat → Nat → Int32))
  | 0, _, _, _, _ => (0, (i, a))
  | fu + 1, v2, v3, i0, a0 =>
    if p0 ≤ v3 then
      let r_45 := X6_leavesOnRight i0 a0
      if r_45 ≤ 0 then
        let r_54 := X6_hasRoomForPair i0 a0
        if r_54 = 0 then
          ((-3), (i0, a0))
        else
          let x_65 := X6_takePair i0 a0
          ((v2 + x_65.1), (x_65.2.1, x_65.2.2))
      else
        (v2, (i0, a0))
    else
      let r_10 := X6_leavesOnRight i0 a0
      if r_10 ≤ 0 then
        let r_45 := X6_leavesOnRight i0 a0
        if r_45 ≤ 0 then
          let r_54 := X6_hasRoomForPair i0 a0
          if r_54 = 0 then
            ((-3), (i0, a0))
          else
            let x_65 := X6_takePair i0 a0
            ((v2 + x_65.1), (x_65.2.1, x_65.2.2))
        else
          (v2, (i0, a0))
      else
        let r_17 := X6_hasRoomForPair i0 a0
        if r_17 = 0 then
          ((-3), (i0, a0))
        else
          let x_28 := X6_takePair i0 a0
          let x_34 := X6_turnOnce x_28.2.1 x_28.2.2
          X6_takeAndTurn_L4 i a p0 fu (v2 + x_28.1) (v3 + 1) x_34.2 x_28.2.2
def X6_takeAndTurn (i : Nat → Int32) (a : Nat → Nat → Int32) (p0 : Int32) : Int32 × ((Nat → Int32) × (Nat → Nat → Int32)) :=
  X6_takeAndTurn_L4 i a p0 (((p0 : Int32).toInt - (0 : Int32).toInt).toNat + 1) 0 0 i a
set_option maxHeartbeats 4000000 in
set_option maxRecDepth 100000 in
theorem c_X6_takeAndTurn (l : Launch) (D : va_G) (yI yC yO : ClassId) (B : Nat → Nat) (i : Nat → Int32) (a : Nat → Nat → Int32) (p0 : Int32) (sz : Nat) : Met l yX6_takeAndTurn wsX6_takeAndTurn ({ frames := 5, cells := 0, slots := 0, locals := 150 }) (va_Pc [.ref (B 0), .int p0] (lt_M D yI yC yO (lt_St yI B i a) sz)) (lt_Qi D (X6_takeAndTurn i a p0) (fun u => lt_St yI B u.1 u.2) (va_A (lt_St yI B i a) sz)) 0 0 (va_A (lt_St yI B i a) sz) := by
  refine Met.ofW (cc := cX6_takeAndTurn) (maxL := 4) (ret := (some .int)) (by decide) rfl ?_
  intro p e s m args below meth c s₁ B0 hml hv
  obtain ⟨rfl, hsz, hP, hK0, hD0⟩ := hv
  have hx := B0.exec
  have hb := B0.bytes
  have hret := B0.returns
  have hts := atoms_spec (ws := wsX6_takeAndTurn) B0.pre
  have hown : s.vm.findClass RX6 = some m.cls := findClass_of_methodNamed B0.named
  have hlocks := B0.notSynchronized
  have hK := hK0.1
  have hN := hK0.2
  subst hsz
  have hD := hD0.self (sz := s.heap.size)
  generalize hAe : va_A (lt_St yI B i a) s.heap.size = A at hD ⊢
  have hA : ∀ q : Nat, s.heap.size ≤ q → A q := fun q h => by rw [← hAe]; exact Or.inr h
  have hS : va_S A s.heap s.heap [] := va_S.rf
  have hP : va_P D vwCl (lt_St yI B i a) s.heap := hP
  have hD : va_D A (lt_St yI B i a) := hD
  have hl := lv_entry ([.ref (B 0), .int p0]) (n := 4) (Nat.le_of_ble_eq_true rfl)
  rw [lg_entry_eq]
  generalize (lg_sl ([.ref (B 0), .int p0]) ++ List.replicate (4 - (lg_sl ([.ref (B 0), .int p0])).length) Slot.unset).toArray = ls at hl ⊢
  have hl : lv_has ls 4 [(0, .ref (B 0)), (1, .int p0)] := hl
  refine lv_iconst (v := 0) hx hb dX6_takeAndTurn_0 (by decide) ?_
  refine lv_istore_n (lv' := [(2, .int 0), (0, .ref (B 0)), (1, .int p0)]) hx hb dX6_takeAndTurn_1 rfl hl (by decide) rfl (fun ls hl => ?_)
  refine lv_iconst (v := 0) hx hb dX6_takeAndTurn_2 (by decide) ?_
  refine lv_istore_n (lv' := [(3, .int 0), (2, .int 0), (0, .ref (B 0)), (1, .int p0)]) hx hb dX6_takeAndTurn_3 rfl hl (by decide) rfl (fun ls hl => ?_)
  refine lt_loop (σ := (Int32) × (Int32) × (Nat → Int32) × (Nat → Nat → Int32)) (fun fu (x : (Int32) × (Int32) × (Nat → Int32) × (Nat → Nat → Int32)) H locs ls => ∃ (v2 : Int32) (v3 : Int32) (i0 : Nat → Int32) (a0 : Nat → Nat → Int32), x = (v2, v3, i0, a0) ∧ lt_fu fu (p0) (v3) ∧ X6_takeAndTurn_L4 i a p0 fu v2 v3 i0 a0 = X6_takeAndTurn i a p0 ∧ va_P D vwCl (lt_St yI B i0 a0) H ∧ va_D A (lt_St yI B i0 a0) ∧ va_S A s.heap H locs ∧ lv_has ls 4 [(3, .int v3), (2, .int v2), (0, .ref (B 0)), (1, .int p0)]) ?_ ?_ (((p0 : Int32).toInt - (0 : Int32).toInt).toNat + 1) (0, 0, i, a) _ _ _ ⟨0, 0, i, a, rfl, lt_fuI _ _, (Eq.symm rfl), hP, hD, hS, (lv_sub hl [0, 1, 2, 3] rfl)⟩
  · rintro x H locs ls ⟨_, _, _, _, -, hF, -⟩
    exact lt_fu0 hF
  · rintro fu ih x H locs ls ⟨v2, v3, i0, a0, rfl, hF, hT, hP, hD, hS, hl⟩
    refine lv_iload_n hx hb dX6_takeAndTurn_4 rfl (lv_at hl 0 rfl) ?_
    refine lv_iload_n hx hb dX6_takeAndTurn_5 rfl (lv_at hl 3 rfl) ?_
    refine lv_icmp_ge (tgt := 44) hx hb dX6_takeAndTurn_6 (by decide) (fun c_6 => ?_) (fun c_6 => ?_)
    · refine lv_aload_n hx hb dX6_takeAndTurn_44 rfl (lv_at hl 2 rfl) ?_
      have hPc := hP.sub (ws' := lt_St yI B i0 a0) [0, 1, 2, 3, 4, 5, 6, 7, 8, 9, 10, 11, 12, 13, 14, 15, 16, 17, 18] rfl
      refine lt_cR (va_runV (As := []) (rest := []) ⟨hx, hb, hml, hown, hts⟩ (c_X6_leavesOnRight l D yI yC yO B i0 a0 ) (cwV 0 hts gX6_takeAndTurn_X6_leavesOnRight rfl rfl rfl (by decide +kernel) ⟨Nat.le_of_ble_eq_true rfl, Nat.le_of_ble_eq_true rfl⟩) (lt_pV hK0 hPc (va_recv hK hPc (ci := 6) (q0 := 0) rfl rfl)) rfl rfl hl.1 rfl (lv_room (Nat.le_of_ble_eq_true rfl)) dX6_takeAndTurn_45 ⟨Nat.zero_le _, Nat.zero_le _⟩) (fun r_45 e_r_45 => ?_)
      refine lv_if_le (tgt := 53) hx hb dX6_takeAndTurn_48 (by decide) (fun c_48 => ?_) (fun c_48 => ?_)
      · refine lv_aload_n hx hb dX6_takeAndTurn_53 rfl (lv_at hl 2 rfl) ?_
        have hPc := hP.sub (ws' := lt_St yI B i0 a0) [0, 1, 2, 3, 4, 5, 6, 7, 8, 9, 10, 11, 12, 13, 14, 15, 16, 17, 18] rfl
        refine lt_cR (va_runV (As := []) (rest := []) ⟨hx, hb, hml, hown, hts⟩ (c_X6_hasRoomForPair l D yI yC yO B i0 a0 ) (cwV 0 hts gX6_takeAndTurn_X6_hasRoomForPair rfl rfl rfl (by decide +kernel) ⟨Nat.le_of_ble_eq_true rfl, Nat.le_of_ble_eq_true rfl⟩) (lt_pV hK0 hPc (va_recv hK hPc (ci := 6) (q0 := 0) rfl rfl)) rfl rfl hl.1 rfl (lv_room (Nat.le_of_ble_eq_true rfl)) dX6_takeAndTurn_54 ⟨Nat.zero_le _, Nat.zero_le _⟩) (fun r_54 e_r_54 => ?_)
        refine lv_if_ne (tgt := 63) hx hb dX6_takeAndTurn_57 (by decide) (fun c_57 => ?_) (fun c_57 => ?_)
        · refine lv_iload_n hx hb dX6_takeAndTurn_63 rfl (lv_at hl 1 rfl) ?_
          refine lv_aload_n hx hb dX6_takeAndTurn_64 rfl (lv_at hl 2 rfl) ?_
          have hPc := hP.sub (ws' := lt_St yI B i0 a0) [0, 1, 2, 3, 4, 5, 6, 7, 8, 9, 10, 11, 12, 13, 14, 15, 16, 17, 18] rfl
          have hDc := hD.sub (ws' := lt_St yI B i0 a0) [0, 1, 2, 3, 4, 5, 6, 7, 8, 9, 10, 11, 12, 13, 14, 15, 16, 17, 18] (by decide) rfl
          refine lt_cWi (wc := lt_St yI B i0 a0) (wr := []) (va_runV (As := []) (rest := [.int v2]) ⟨hx, hb, hml, hown, hts⟩ (c_X6_takePair l D yI yC yO B i0 a0 _ ) (cwV 0 hts gX6_takeAndTurn_X6_takePair rfl rfl rfl (by decide +kernel) ⟨Nat.le_of_ble_eq_true rfl, Nat.le_of_ble_eq_true rfl⟩) (lt_qV hK0 hPc hDc (va_recv hK hPc (ci := 6) (q0 := 0) rfl rfl)) rfl rfl hl.1 rfl (lv_room (Nat.le_of_ble_eq_true rfl)) dX6_takeAndTurn_65 ⟨Nat.zero_le _, Nat.zero_le _⟩) hP hD hS hA [0, 1, 2, 3, 4, 5, 6, 7, 8, 9, 10, 11, 12, 13, 14, 15, 16, 17, 18] [] rfl rfl (by decide) (by decide) (fun x_65 e_x_65 H locs hP hD hS => ?_)
          have hP := hP.sub (ws' := lt_St yI B x_65.2.1 x_65.2.2) [0, 1, 2, 3, 4, 5, 6, 7, 8, 9, 10, 11, 12, 13, 14, 15, 16, 17, 18] rfl
          have hD := hD.sub (ws' := lt_St yI B x_65.2.1 x_65.2.2) [0, 1, 2, 3, 4, 5, 6, 7, 8, 9, 10, 11, 12, 13, 14, 15, 16, 17, 18] (by decide) rfl
          refine lv_iadd hx hb dX6_takeAndTurn_68 ?_
          exact W.iret (v := (v2 + x_65.1)) hx hb hret (fun t ht hW => ⟨⟨(v2 + x_65.1), (x_65.2.1, x_65.2.2), rfl, (by subst e_x_65 e_r_54 e_r_45; exact (Eq.trans (Eq.symm (Eq.trans (if_pos c_6) (Eq.trans (if_pos c_48) (Eq.trans (if_neg c_57) rfl)))) hT)), by rw [ht]; exact hP, hD⟩, hS.F ht⟩) hS.2.2 dX6_takeAndTurn_69
        · refine lv_bipush (v := (-3)) hx hb dX6_takeAndTurn_60 (by decide) ?_
          exact W.iret (v := (-3)) hx hb hret (fun t ht hW => ⟨⟨(-3), (i0, a0), rfl, (by subst e_r_54 e_r_45; exact (Eq.trans (Eq.symm (Eq.trans (if_pos c_6) (Eq.trans (if_pos c_48) (Eq.trans (if_pos c_57) rfl)))) hT)), by rw [ht]; exact hP, hD⟩, hS.F ht⟩) hS.2.2 dX6_takeAndTurn_62
      · refine lv_iload_n hx hb dX6_takeAndTurn_51 rfl (lv_at hl 1 rfl) ?_
        exact W.iret (v := v2) hx hb hret (fun t ht hW => ⟨⟨v2, (i0, a0), rfl, (by subst e_r_45; exact (Eq.trans (Eq.symm (Eq.trans (if_pos c_6) (Eq.trans (if_neg c_48) rfl))) hT)), by rw [ht]; exact hP, hD⟩, hS.F ht⟩) hS.2.2 dX6_takeAndTurn_52
    · refine lv_aload_n hx hb dX6_takeAndTurn_9 rfl (lv_at hl 2 rfl) ?_
      have hPc := hP.sub (ws' := lt_St yI B i0 a0) [0, 1, 2, 3, 4, 5, 6, 7, 8, 9, 10, 11, 12, 13, 14, 15, 16, 17, 18] rfl
      refine lt_cR (va_runV (As := []) (rest := []) ⟨hx, hb, hml, hown, hts⟩ (c_X6_leavesOnRight l D yI yC yO B i0 a0 ) (cwV 0 hts gX6_takeAndTurn_X6_leavesOnRight rfl rfl rfl (by decide +kernel) ⟨Nat.le_of_ble_eq_true rfl, Nat.le_of_ble_eq_true rfl⟩) (lt_pV hK0 hPc (va_recv hK hPc (ci := 6) (q0 := 0) rfl rfl)) rfl rfl hl.1 rfl (lv_room (Nat.le_of_ble_eq_true rfl)) dX6_takeAndTurn_10 ⟨Nat.zero_le _, Nat.zero_le _⟩) (fun r_10 e_r_10 => ?_)
      refine lv_if_le (tgt := 44) hx hb dX6_takeAndTurn_13 (by decide) (fun c_13 => ?_) (fun c_13 => ?_)
      · refine lv_aload_n hx hb dX6_takeAndTurn_44 rfl (lv_at hl 2 rfl) ?_
        have hPc := hP.sub (ws' := lt_St yI B i0 a0) [0, 1, 2, 3, 4, 5, 6, 7, 8, 9, 10, 11, 12, 13, 14, 15, 16, 17, 18] rfl
        refine lt_cR (va_runV (As := []) (rest := []) ⟨hx, hb, hml, hown, hts⟩ (c_X6_leavesOnRight l D yI yC yO B i0 a0 ) (cwV 0 hts gX6_takeAndTurn_X6_leavesOnRight rfl rfl rfl (by decide +kernel) ⟨Nat.le_of_ble_eq_true rfl, Nat.le_of_ble_eq_true rfl⟩) (lt_pV hK0 hPc (va_recv hK hPc (ci := 6) (q0 := 0) rfl rfl)) rfl rfl hl.1 rfl (lv_room (Nat.le_of_ble_eq_true rfl)) dX6_takeAndTurn_45 ⟨Nat.zero_le _, Nat.zero_le _⟩) (fun r_45 e_r_45 => ?_)
        refine lv_if_le (tgt := 53) hx hb dX6_takeAndTurn_48 (by decide) (fun c_48 => ?_) (fun c_48 => ?_)
        · refine lv_aload_n hx hb dX6_takeAndTurn_53 rfl (lv_at hl 2 rfl) ?_
          have hPc := hP.sub (ws' := lt_St yI B i0 a0) [0, 1, 2, 3, 4, 5, 6, 7, 8, 9, 10, 11, 12, 13, 14, 15, 16, 17, 18] rfl
          refine lt_cR (va_runV (As := []) (rest := []) ⟨hx, hb, hml, hown, hts⟩ (c_X6_hasRoomForPair l D yI yC yO B i0 a0 ) (cwV 0 hts gX6_takeAndTurn_X6_hasRoomForPair rfl rfl rfl (by decide +kernel) ⟨Nat.le_of_ble_eq_true rfl, Nat.le_of_ble_eq_true rfl⟩) (lt_pV hK0 hPc (va_recv hK hPc (ci := 6) (q0 := 0) rfl rfl)) rfl rfl hl.1 rfl (lv_room (Nat.le_of_ble_eq_true rfl)) dX6_takeAndTurn_54 ⟨Nat.zero_le _, Nat.zero_le _⟩) (fun r_54 e_r_54 => ?_)
          refine lv_if_ne (tgt := 63) hx hb dX6_takeAndTurn_57 (by decide) (fun c_57 => ?_) (fun c_57 => ?_)
          · refine lv_iload_n hx hb dX6_takeAndTurn_63 rfl (lv_at hl 1 rfl) ?_
            refine lv_aload_n hx hb dX6_takeAndTurn_64 rfl (lv_at hl 2 rfl) ?_
            have hPc := hP.sub (ws' := lt_St yI B i0 a0) [0, 1, 2, 3, 4, 5, 6, 7, 8, 9, 10, 11, 12, 13, 14, 15, 16, 17, 18] rfl
            have hDc := hD.sub (ws' := lt_St yI B i0 a0) [0, 1, 2, 3, 4, 5, 6, 7, 8, 9, 10, 11, 12, 13, 14, 15, 16, 17, 18] (by decide) rfl
            refine lt_cWi (wc := lt_St yI B i0 a0) (wr := []) (va_runV (As := []) (rest := [.int v2]) ⟨hx, hb, hml, hown, hts⟩ (c_X6_takePair l D yI yC yO B i0 a0 _ ) (cwV 0 hts gX6_takeAndTurn_X6_takePair rfl rfl rfl (by decide +kernel) ⟨Nat.le_of_ble_eq_true rfl, Nat.le_of_ble_eq_true rfl⟩) (lt_qV hK0 hPc hDc (va_recv hK hPc (ci := 6) (q0 := 0) rfl rfl)) rfl rfl hl.1 rfl (lv_room (Nat.le_of_ble_eq_true rfl)) dX6_takeAndTurn_65 ⟨Nat.zero_le _, Nat.zero_le _⟩) hP hD hS hA [0, 1, 2, 3, 4, 5, 6, 7, 8, 9, 10, 11, 12, 13, 14, 15, 16, 17, 18] [] rfl rfl (by decide) (by decide) (fun x_65 e_x_65 H locs hP hD hS => ?_)
            have hP := hP.sub (ws' := lt_St yI B x_65.2.1 x_65.2.2) [0, 1, 2, 3, 4, 5, 6, 7, 8, 9, 10, 11, 12, 13, 14, 15, 16, 17, 18] rfl
            have hD := hD.sub (ws' := lt_St yI B x_65.2.1 x_65.2.2) [0, 1, 2, 3, 4, 5, 6, 7, 8, 9, 10, 11, 12, 13, 14, 15, 16, 17, 18] (by decide) rfl
            refine lv_iadd hx hb dX6_takeAndTurn_68 ?_
            exact W.iret (v := (v2 + x_65.1)) hx hb hret (fun t ht hW => ⟨⟨(v2 + x_65.1), (x_65.2.1, x_65.2.2), rfl, (by subst e_x_65 e_r_54 e_r_45 e_r_10; exact (Eq.trans (Eq.symm (Eq.trans (if_neg c_6) (Eq.trans (if_pos c_13) (Eq.trans (if_pos c_48) (Eq.trans (if_neg c_57) rfl))))) hT)), by rw [ht]; exact hP, hD⟩, hS.F ht⟩) hS.2.2 dX6_takeAndTurn_69
          · refine lv_bipush (v := (-3)) hx hb dX6_takeAndTurn_60 (by decide) ?_
            exact W.iret (v := (-3)) hx hb hret (fun t ht hW => ⟨⟨(-3), (i0, a0), rfl, (by subst e_r_54 e_r_45 e_r_10; exact (Eq.trans (Eq.symm (Eq.trans (if_neg c_6) (Eq.trans (if_pos c_13) (Eq.trans (if_pos c_48) (Eq.trans (if_pos c_57) rfl))))) hT)), by rw [ht]; exact hP, hD⟩, hS.F ht⟩) hS.2.2 dX6_takeAndTurn_62
        · refine lv_iload_n hx hb dX6_takeAndTurn_51 rfl (lv_at hl 1 rfl) ?_
          exact W.iret (v := v2) hx hb hret (fun t ht hW => ⟨⟨v2, (i0, a0), rfl, (by subst e_r_45 e_r_10; exact (Eq.trans (Eq.symm (Eq.trans (if_neg c_6) (Eq.trans (if_pos c_13) (Eq.trans (if_neg c_48) rfl)))) hT)), by rw [ht]; exact hP, hD⟩, hS.F ht⟩) hS.2.2 dX6_takeAndTurn_52
      · refine lv_aload_n hx hb dX6_takeAndTurn_16 rfl (lv_at hl 2 rfl) ?_
        have hPc := hP.sub (ws' := lt_St yI B i0 a0) [0, 1, 2, 3, 4, 5, 6, 7, 8, 9, 10, 11, 12, 13, 14, 15, 16, 17, 18] rfl
        refine lt_cR (va_runV (As := []) (rest := []) ⟨hx, hb, hml, hown, hts⟩ (c_X6_hasRoomForPair l D yI yC yO B i0 a0 ) (cwV 0 hts gX6_takeAndTurn_X6_hasRoomForPair rfl rfl rfl (by decide +kernel) ⟨Nat.le_of_ble_eq_true rfl, Nat.le_of_ble_eq_true rfl⟩) (lt_pV hK0 hPc (va_recv hK hPc (ci := 6) (q0 := 0) rfl rfl)) rfl rfl hl.1 rfl (lv_room (Nat.le_of_ble_eq_true rfl)) dX6_takeAndTurn_17 ⟨Nat.zero_le _, Nat.zero_le _⟩) (fun r_17 e_r_17 => ?_)
        refine lv_if_ne (tgt := 26) hx hb dX6_takeAndTurn_20 (by decide) (fun c_20 => ?_) (fun c_20 => ?_)
        · refine lv_iload_n hx hb dX6_takeAndTurn_26 rfl (lv_at hl 1 rfl) ?_
          refine lv_aload_n hx hb dX6_takeAndTurn_27 rfl (lv_at hl 2 rfl) ?_
          have hPc := hP.sub (ws' := lt_St yI B i0 a0) [0, 1, 2, 3, 4, 5, 6, 7, 8, 9, 10, 11, 12, 13, 14, 15, 16, 17, 18] rfl
          have hDc := hD.sub (ws' := lt_St yI B i0 a0) [0, 1, 2, 3, 4, 5, 6, 7, 8, 9, 10, 11, 12, 13, 14, 15, 16, 17, 18] (by decide) rfl
          refine lt_cWi (wc := lt_St yI B i0 a0) (wr := []) (va_runV (As := []) (rest := [.int v2]) ⟨hx, hb, hml, hown, hts⟩ (c_X6_takePair l D yI yC yO B i0 a0 _ ) (cwV 0 hts gX6_takeAndTurn_X6_takePair rfl rfl rfl (by decide +kernel) ⟨Nat.le_of_ble_eq_true rfl, Nat.le_of_ble_eq_true rfl⟩) (lt_qV hK0 hPc hDc (va_recv hK hPc (ci := 6) (q0 := 0) rfl rfl)) rfl rfl hl.1 rfl (lv_room (Nat.le_of_ble_eq_true rfl)) dX6_takeAndTurn_28 ⟨Nat.zero_le _, Nat.zero_le _⟩) hP hD hS hA [0, 1, 2, 3, 4, 5, 6, 7, 8, 9, 10, 11, 12, 13, 14, 15, 16, 17, 18] [] rfl rfl (by decide) (by decide) (fun x_28 e_x_28 H locs hP hD hS => ?_)
          have hP := hP.sub (ws' := lt_St yI B x_28.2.1 x_28.2.2) [0, 1, 2, 3, 4, 5, 6, 7, 8, 9, 10, 11, 12, 13, 14, 15, 16, 17, 18] rfl
          have hD := hD.sub (ws' := lt_St yI B x_28.2.1 x_28.2.2) [0, 1, 2, 3, 4, 5, 6, 7, 8, 9, 10, 11, 12, 13, 14, 15, 16, 17, 18] (by decide) rfl
          refine lv_iadd hx hb dX6_takeAndTurn_31 ?_
          refine lv_istore_n (lv' := [(2, .int (v2 + x_28.1)), (3, .int v3), (0, .ref (B 0)), (1, .int p0)]) hx hb dX6_takeAndTurn_32 rfl hl (by decide) rfl (fun ls hl => ?_)
          refine lv_aload_n hx hb dX6_takeAndTurn_33 rfl (lv_at hl 2 rfl) ?_
          have hPc := hP.sub (ws' := lt_St yI B x_28.2.1 x_28.2.2) [0, 1, 2, 3, 4, 5, 6, 7, 8, 9, 10, 11, 12, 13, 14, 15, 16, 17, 18] rfl
          have hDc := hD.sub (ws' := lt_St yI B x_28.2.1 x_28.2.2) [0, 1, 2, 3, 4, 5, 6, 7, 8, 9, 10, 11, 12, 13, 14, 15, 16, 17, 18] (by decide) rfl
          refine lt_cWi (wc := lt_St yI B x_28.2.1 x_28.2.2) (wr := []) (va_runV (As := []) (rest := []) ⟨hx, hb, hml, hown, hts⟩ (c_X6_turnOnce l D yI yC yO B x_28.2.1 x_28.2.2 _ ) (cwV 0 hts gX6_takeAndTurn_X6_turnOnce rfl rfl rfl (by decide +kernel) ⟨Nat.le_of_ble_eq_true rfl, Nat.le_of_ble_eq_true rfl⟩) (lt_qV hK0 hPc hDc (va_recv hK hPc (ci := 6) (q0 := 0) rfl rfl)) rfl rfl hl.1 rfl (lv_room (Nat.le_of_ble_eq_true rfl)) dX6_takeAndTurn_34 ⟨Nat.zero_le _, Nat.zero_le _⟩) hP hD hS hA [0, 1, 2, 3, 4, 5, 6, 7, 8, 9, 10, 11, 12, 13, 14, 15, 16, 17, 18] [] rfl rfl (by decide) (by decide) (fun x_34 e_x_34 H locs hP hD hS => ?_)
          have hP := hP.sub (ws' := lt_St yI B x_34.2 x_28.2.2) [0, 1, 2, 3, 4, 5, 6, 7, 8, 9, 10, 11, 12, 13, 14, 15, 16, 17, 18] rfl
          have hD := hD.sub (ws' := lt_St yI B x_34.2 x_28.2.2) [0, 1, 2, 3, 4, 5, 6, 7, 8, 9, 10, 11, 12, 13, 14, 15, 16, 17, 18] (by decide) rfl
          refine lv_pop hx hb dX6_takeAndTurn_37 rfl ?_
          refine lv_iinc (v := (v3 + 1)) (lv' := [(3, .int (v3 + 1)), (2, .int (v2 + x_28.1)), (0, .ref (B 0)), (1, .int p0)]) hx hb dX6_takeAndTurn_38 hl (k := 1) rfl (rfl) (by decide) rfl (fun ls hl => ?_)
          refine lv_goto (tgt := 4) hx hb dX6_takeAndTurn_41 (by decide) ?_
          exact ih ((v2 + x_28.1), (v3 + 1), x_34.2, x_28.2.2) _ _ _ ⟨(v2 + x_28.1), (v3 + 1), x_34.2, x_28.2.2, rfl, lt_fuS hF (lt_nle c_6), (by subst e_x_34 e_x_28 e_r_17 e_r_10; exact (Eq.trans (Eq.symm (Eq.trans (if_neg c_6) (Eq.trans (if_neg c_13) (Eq.trans (if_neg c_20) rfl)))) hT)), hP, hD, hS, lv_sub hl [0, 1, 2, 3] rfl⟩
        · refine lv_bipush (v := (-3)) hx hb dX6_takeAndTurn_23 (by decide) ?_
          exact W.iret (v := (-3)) hx hb hret (fun t ht hW => ⟨⟨(-3), (i0, a0), rfl, (by subst e_r_17 e_r_10; exact (Eq.trans (Eq.symm (Eq.trans (if_neg c_6) (Eq.trans (if_neg c_13) (Eq.trans (if_pos c_20) rfl)))) hT)), by rw [ht]; exact hP, hD⟩, hS.F ht⟩) hS.2.2 dX6_takeAndTurn_25

theorem iw_X6_copyFrom_6 : ∀ w ∈ wsX60, w ∈ wsX6_copyFrom := by decide +kernel
set_option maxHeartbeats 4000000 in
set_option maxRecDepth 100000 in
theorem c_X6_copyFrom (l : Launch) (D : va_G) (yI yC yO : ClassId) (B : Nat → Nat) (B' : Nat → Nat) (i : Nat → Int32) (a : Nat → Nat → Int32) (i' : Nat → Int32) (a' : Nat → Nat → Int32) (sz : Nat) : Met l yX6_copyFrom wsX6_copyFrom ({ frames := 3, cells := 0, slots := 0, locals := 90 }) (va_Pc [.ref (B 0), .ref (B' 0)] (lt_M D yI yC yO (lt_St yI B i a ++ lt_St yI B' i' a') sz)) (lt_Qv D (X6_copyFrom i a i' a') (fun u => lt_St yI B u.1 u.2 ++ lt_St yI B' i' a') (va_A (lt_St yI B i a ++ lt_St yI B' i' a') sz)) 0 0 (va_A (lt_St yI B i a ++ lt_St yI B' i' a') sz) := by
  refine Met.ofW (cc := cX6_copyFrom) (maxL := 2) (ret := none) (by decide) rfl ?_
  intro p e s m args below meth c s₁ B0 hml hv
  obtain ⟨rfl, hsz, hP, hK0, hD0⟩ := hv
  have hx := B0.exec
  have hb := B0.bytes
  have hret := B0.returns
  have hts := atoms_spec (ws := wsX6_copyFrom) B0.pre
  have hown : s.vm.findClass RX6 = some m.cls := findClass_of_methodNamed B0.named
  have hlocks := B0.notSynchronized
  have hK := hK0.1
  have hN := hK0.2
  subst hsz
  have hD := hD0.self (sz := s.heap.size)
  generalize hAe : va_A (lt_St yI B i a ++ lt_St yI B' i' a') s.heap.size = A at hD ⊢
  have hA : ∀ q : Nat, s.heap.size ≤ q → A q := fun q h => by rw [← hAe]; exact Or.inr h
  have hS : va_S A s.heap s.heap [] := va_S.rf
  have hP : va_P D vwCl (lt_St yI B i a ++ lt_St yI B' i' a') s.heap := hP
  have hD : va_D A (lt_St yI B i a ++ lt_St yI B' i' a') := hD
  have hl := lv_entry ([.ref (B 0), .ref (B' 0)]) (n := 2) (Nat.le_of_ble_eq_true rfl)
  rw [lg_entry_eq]
  generalize (lg_sl ([.ref (B 0), .ref (B' 0)]) ++ List.replicate (2 - (lg_sl ([.ref (B 0), .ref (B' 0)])).length) Slot.unset).toArray = ls at hl ⊢
  have hl : lv_has ls 2 [(0, .ref (B 0)), (1, .ref (B' 0))] := hl
  refine lv_aload_n hx hb dX6_copyFrom_0 rfl (lv_at hl 0 rfl) ?_
  refine va_get (D := D) (ci := 6) (v := .ref (B 1)) (C := RX6) (T := TX6) (N := 10) hx hb hts iw_X6_copyFrom_6 hown hK hP 0 rfl rfl 0 (by decide) (hts (.fieldLink RX6 12 "LeafTurner$State" "book" "LLeafTurner$Book;") (by decide +kernel)) (fun _ h9 => h9) rfl dX6_copyFrom_1 ?_
  refine lv_aload_n hx hb dX6_copyFrom_4 rfl (lv_at hl 1 rfl) ?_
  refine va_get (D := D) (ci := 6) (v := .ref (B' 1)) (C := RX6) (T := TX6) (N := 10) hx hb hts iw_X6_copyFrom_6 hown hK hP 19 rfl rfl 0 (by decide) (hts (.fieldLink RX6 12 "LeafTurner$State" "book" "LLeafTurner$Book;") (by decide +kernel)) (fun _ h9 => h9) rfl dX6_copyFrom_5 ?_
  have hPc := hP.sub (ws' := lt_Bk yI B (i 0) (a 0) (a 1) (a 2) ++ lt_Bk yI B' (i' 0) (a' 0) (a' 1) (a' 2)) [1, 2, 3, 4, 5, 6, 7, 20, 21, 22, 23, 24, 25, 26] rfl
  have hDc := hD.sub (ws' := lt_Bk yI B (i 0) (a 0) (a 1) (a 2) ++ lt_Bk yI B' (i' 0) (a' 0) (a' 1) (a' 2)) [1, 2, 3, 4, 5, 6, 7, 20, 21, 22, 23, 24, 25, 26] (by decide) rfl
  refine lt_cWv0 (wc := lt_Bk yI B (i 0) (a 0) (a 1) (a 2) ++ lt_Bk yI B' (i' 0) (a' 0) (a' 1) (a' 2)) (wr := [(B 0, .inr (6, [.ref (B 1), .ref (B 8), .ref (B 17), .int (i 1), .int (i 8), .int (i 4), .int (i 5), .int (i 6), .int (i 7), .int (i 3)])), (B 8, .inr (5, [.ref (B 9), .ref (B 11), .ref (B 13), .ref (B 15), .int (i 2)])), (B 9, .inr (3, [.ref (B 10)])), (B 10, .inl (yI, 80, .inl (a 3))), (B 11, .inr (3, [.ref (B 12)])), (B 12, .inl (yI, 80, .inl (a 4))), (B 13, .inr (3, [.ref (B 14)])), (B 14, .inl (yI, 80, .inl (a 5))), (B 15, .inr (3, [.ref (B 16)])), (B 16, .inl (yI, 80, .inl (a 6))), (B 17, .inr (3, [.ref (B 18)])), (B 18, .inl (yI, 3, .inl (a 7))), (B' 0, .inr (6, [.ref (B' 1), .ref (B' 8), .ref (B' 17), .int (i' 1), .int (i' 8), .int (i' 4), .int (i' 5), .int (i' 6), .int (i' 7), .int (i' 3)])), (B' 8, .inr (5, [.ref (B' 9), .ref (B' 11), .ref (B' 13), .ref (B' 15), .int (i' 2)])), (B' 9, .inr (3, [.ref (B' 10)])), (B' 10, .inl (yI, 80, .inl (a' 3))), (B' 11, .inr (3, [.ref (B' 12)])), (B' 12, .inl (yI, 80, .inl (a' 4))), (B' 13, .inr (3, [.ref (B' 14)])), (B' 14, .inl (yI, 80, .inl (a' 5))), (B' 15, .inr (3, [.ref (B' 16)])), (B' 16, .inl (yI, 80, .inl (a' 6))), (B' 17, .inr (3, [.ref (B' 18)])), (B' 18, .inl (yI, 3, .inl (a' 7)))]) (va_runV (As := [.ref (B' 1)]) (rest := []) ⟨hx, hb, hml, hown, hts⟩ (c_X0_copyFrom l D yI yC yO B B' (i 0) (a 0) (a 1) (a 2) (i' 0) (a' 0) (a' 1) (a' 2) _ ) (cwV 1 hts gX6_copyFrom_X0_copyFrom rfl rfl rfl (by decide +kernel) ⟨Nat.le_of_ble_eq_true rfl, Nat.le_of_ble_eq_true rfl⟩) (lt_qV hK0 hPc hDc (va_recv hK hPc (ci := 0) (q0 := 0) rfl rfl)) rfl rfl hl.1 rfl (lv_room (Nat.le_of_ble_eq_true rfl)) dX6_copyFrom_8 ⟨Nat.zero_le _, Nat.zero_le _⟩) hP hD hS hA [1, 2, 3, 4, 5, 6, 7, 20, 21, 22, 23, 24, 25, 26] [0, 8, 9, 10, 11, 12, 13, 14, 15, 16, 17, 18, 19, 27, 28, 29, 30, 31, 32, 33, 34, 35, 36, 37] rfl rfl (by decide) (by decide) (fun H locs hP hD hS => ?_)
  have hP := hP.sub (ws' := lt_St yI B (upd i 0 (i' 0)) (va_up (va_up (va_up a 0 (a' 0)) 1 (a' 1)) 2 (a' 2)) ++ lt_St yI B' i' a') [0, 24, 25, 26, 27, 28, 29, 30, 1, 2, 3, 4, 5, 6, 7, 8, 9, 10, 11, 12, 31, 32, 33, 34, 35, 36, 37, 13, 14, 15, 16, 17, 18, 19, 20, 21, 22, 23] rfl
  have hD := hD.sub (ws' := lt_St yI B (upd i 0 (i' 0)) (va_up (va_up (va_up a 0 (a' 0)) 1 (a' 1)) 2 (a' 2)) ++ lt_St yI B' i' a') [0, 24, 25, 26, 27, 28, 29, 30, 1, 2, 3, 4, 5, 6, 7, 8, 9, 10, 11, 12, 31, 32, 33, 34, 35, 36, 37, 13, 14, 15, 16, 17, 18, 19, 20, 21, 22, 23] (by decide) rfl
  refine lv_aload_n hx hb dX6_copyFrom_11 rfl (lv_at hl 0 rfl) ?_
  refine va_get (D := D) (ci := 6) (v := .ref (B 8)) (C := RX6) (T := TX6) (N := 10) hx hb hts iw_X6_copyFrom_6 hown hK hP 0 rfl rfl 1 (by decide) (hts (.fieldLink RX6 21 "LeafTurner$State" "pictures" "LLeafTurner$Pictures;") (by decide +kernel)) (fun _ h9 => h9) rfl dX6_copyFrom_12 ?_
  refine lv_aload_n hx hb dX6_copyFrom_15 rfl (lv_at hl 1 rfl) ?_
  refine va_get (D := D) (ci := 6) (v := .ref (B' 8)) (C := RX6) (T := TX6) (N := 10) hx hb hts iw_X6_copyFrom_6 hown hK hP 19 rfl rfl 1 (by decide) (hts (.fieldLink RX6 21 "LeafTurner$State" "pictures" "LLeafTurner$Pictures;") (by decide +kernel)) (fun _ h9 => h9) rfl dX6_copyFrom_16 ?_
  have hPc := hP.sub (ws' := lt_Ps yI B (i 2) (a 3) (a 4) (a 5) (a 6) ++ lt_Ps yI B' (i' 2) (a' 3) (a' 4) (a' 5) (a' 6)) [8, 9, 10, 11, 12, 13, 14, 15, 16, 27, 28, 29, 30, 31, 32, 33, 34, 35] rfl
  have hDc := hD.sub (ws' := lt_Ps yI B (i 2) (a 3) (a 4) (a 5) (a 6) ++ lt_Ps yI B' (i' 2) (a' 3) (a' 4) (a' 5) (a' 6)) [8, 9, 10, 11, 12, 13, 14, 15, 16, 27, 28, 29, 30, 31, 32, 33, 34, 35] (by decide) rfl
  refine lt_cWv0 (wc := lt_Ps yI B (i 2) (a 3) (a 4) (a 5) (a 6) ++ lt_Ps yI B' (i' 2) (a' 3) (a' 4) (a' 5) (a' 6)) (wr := [(B 0, .inr (6, [.ref (B 1), .ref (B 8), .ref (B 17), .int (i 1), .int (i 8), .int (i 4), .int (i 5), .int (i 6), .int (i 7), .int (i 3)])), (B 1, .inr (0, [.ref (B 2), .ref (B 4), .ref (B 6), .int (i' 0)])), (B 2, .inr (3, [.ref (B 3)])), (B 3, .inl (yI, 30, .inl (a' 0))), (B 4, .inr (3, [.ref (B 5)])), (B 5, .inl (yI, 30, .inl (a' 1))), (B 6, .inr (3, [.ref (B 7)])), (B 7, .inl (yI, 60, .inl (a' 2))), (B 17, .inr (3, [.ref (B 18)])), (B 18, .inl (yI, 3, .inl (a 7))), (B' 0, .inr (6, [.ref (B' 1), .ref (B' 8), .ref (B' 17), .int (i' 1), .int (i' 8), .int (i' 4), .int (i' 5), .int (i' 6), .int (i' 7), .int (i' 3)])), (B' 1, .inr (0, [.ref (B' 2), .ref (B' 4), .ref (B' 6), .int (i' 0)])), (B' 2, .inr (3, [.ref (B' 3)])), (B' 3, .inl (yI, 30, .inl (a' 0))), (B' 4, .inr (3, [.ref (B' 5)])), (B' 5, .inl (yI, 30, .inl (a' 1))), (B' 6, .inr (3, [.ref (B' 7)])), (B' 7, .inl (yI, 60, .inl (a' 2))), (B' 17, .inr (3, [.ref (B' 18)])), (B' 18, .inl (yI, 3, .inl (a' 7)))]) (va_runV (As := [.ref (B' 8)]) (rest := []) ⟨hx, hb, hml, hown, hts⟩ (c_X5_copyFrom l D yI yC yO B B' (i 2) (a 3) (a 4) (a 5) (a 6) (i' 2) (a' 3) (a' 4) (a' 5) (a' 6) _ ) (cwV 1 hts gX6_copyFrom_X5_copyFrom rfl rfl rfl (by decide +kernel) ⟨Nat.le_of_ble_eq_true rfl, Nat.le_of_ble_eq_true rfl⟩) (lt_qV hK0 hPc hDc (va_recv hK hPc (ci := 5) (q0 := 0) rfl rfl)) rfl rfl hl.1 rfl (lv_room (Nat.le_of_ble_eq_true rfl)) dX6_copyFrom_19 ⟨Nat.zero_le _, Nat.zero_le _⟩) hP hD hS hA [8, 9, 10, 11, 12, 13, 14, 15, 16, 27, 28, 29, 30, 31, 32, 33, 34, 35] [0, 1, 2, 3, 4, 5, 6, 7, 17, 18, 19, 20, 21, 22, 23, 24, 25, 26, 36, 37] rfl rfl (by decide) (by decide) (fun H locs hP hD hS => ?_)
  have hP := hP.sub (ws' := lt_St yI B (upd (upd i 0 (i' 0)) 2 (i' 2)) (va_up (va_up (va_up (va_up (va_up (va_up (va_up a 0 (a' 0)) 1 (a' 1)) 2 (a' 2)) 3 (a' 3)) 4 (a' 4)) 5 (a' 5)) 6 (a' 6)) ++ lt_St yI B' i' a') [0, 1, 2, 3, 4, 5, 6, 7, 20, 21, 22, 23, 24, 25, 26, 27, 28, 8, 9, 10, 11, 12, 13, 14, 15, 16, 17, 29, 30, 31, 32, 33, 34, 35, 36, 37, 18, 19] rfl
  have hD := hD.sub (ws' := lt_St yI B (upd (upd i 0 (i' 0)) 2 (i' 2)) (va_up (va_up (va_up (va_up (va_up (va_up (va_up a 0 (a' 0)) 1 (a' 1)) 2 (a' 2)) 3 (a' 3)) 4 (a' 4)) 5 (a' 5)) 6 (a' 6)) ++ lt_St yI B' i' a') [0, 1, 2, 3, 4, 5, 6, 7, 20, 21, 22, 23, 24, 25, 26, 27, 28, 8, 9, 10, 11, 12, 13, 14, 15, 16, 17, 29, 30, 31, 32, 33, 34, 35, 36, 37, 18, 19] (by decide) rfl
  refine lv_aload_n hx hb dX6_copyFrom_22 rfl (lv_at hl 0 rfl) ?_
  refine va_get (D := D) (ci := 6) (v := .ref (B 17)) (C := RX6) (T := TX6) (N := 10) hx hb hts iw_X6_copyFrom_6 hown hK hP 0 rfl rfl 2 (by decide) (hts (.fieldLink RX6 34 "LeafTurner$State" "settings" "LLeafTurner$Numbers;") (by decide +kernel)) (fun _ h9 => h9) rfl dX6_copyFrom_23 ?_
  refine lv_aload_n hx hb dX6_copyFrom_26 rfl (lv_at hl 1 rfl) ?_
  refine va_get (D := D) (ci := 6) (v := .ref (B' 17)) (C := RX6) (T := TX6) (N := 10) hx hb hts iw_X6_copyFrom_6 hown hK hP 19 rfl rfl 2 (by decide) (hts (.fieldLink RX6 34 "LeafTurner$State" "settings" "LLeafTurner$Numbers;") (by decide +kernel)) (fun _ h9 => h9) rfl dX6_copyFrom_27 ?_
  have hPc := hP.sub (ws' := lt_N2 yI (B 17) (B 18) 3 (a 7) ++ lt_N2 yI (B' 17) (B' 18) 3 (a' 7)) [17, 18, 36, 37] rfl
  have hDc := hD.sub (ws' := lt_N2 yI (B 17) (B 18) 3 (a 7) ++ lt_N2 yI (B' 17) (B' 18) 3 (a' 7)) [17, 18, 36, 37] (by decide) rfl
  refine lt_cWv0 (wc := lt_N2 yI (B 17) (B 18) 3 (a 7) ++ lt_N2 yI (B' 17) (B' 18) 3 (a' 7)) (wr := [(B 0, .inr (6, [.ref (B 1), .ref (B 8), .ref (B 17), .int (i 1), .int (i 8), .int (i 4), .int (i 5), .int (i 6), .int (i 7), .int (i 3)])), (B 1, .inr (0, [.ref (B 2), .ref (B 4), .ref (B 6), .int (i' 0)])), (B 2, .inr (3, [.ref (B 3)])), (B 3, .inl (yI, 30, .inl (a' 0))), (B 4, .inr (3, [.ref (B 5)])), (B 5, .inl (yI, 30, .inl (a' 1))), (B 6, .inr (3, [.ref (B 7)])), (B 7, .inl (yI, 60, .inl (a' 2))), (B 8, .inr (5, [.ref (B 9), .ref (B 11), .ref (B 13), .ref (B 15), .int (i' 2)])), (B 9, .inr (3, [.ref (B 10)])), (B 10, .inl (yI, 80, .inl (a' 3))), (B 11, .inr (3, [.ref (B 12)])), (B 12, .inl (yI, 80, .inl (a' 4))), (B 13, .inr (3, [.ref (B 14)])), (B 14, .inl (yI, 80, .inl (a' 5))), (B 15, .inr (3, [.ref (B 16)])), (B 16, .inl (yI, 80, .inl (a' 6))), (B' 0, .inr (6, [.ref (B' 1), .ref (B' 8), .ref (B' 17), .int (i' 1), .int (i' 8), .int (i' 4), .int (i' 5), .int (i' 6), .int (i' 7), .int (i' 3)])), (B' 1, .inr (0, [.ref (B' 2), .ref (B' 4), .ref (B' 6), .int (i' 0)])), (B' 2, .inr (3, [.ref (B' 3)])), (B' 3, .inl (yI, 30, .inl (a' 0))), (B' 4, .inr (3, [.ref (B' 5)])), (B' 5, .inl (yI, 30, .inl (a' 1))), (B' 6, .inr (3, [.ref (B' 7)])), (B' 7, .inl (yI, 60, .inl (a' 2))), (B' 8, .inr (5, [.ref (B' 9), .ref (B' 11), .ref (B' 13), .ref (B' 15), .int (i' 2)])), (B' 9, .inr (3, [.ref (B' 10)])), (B' 10, .inl (yI, 80, .inl (a' 3))), (B' 11, .inr (3, [.ref (B' 12)])), (B' 12, .inl (yI, 80, .inl (a' 4))), (B' 13, .inr (3, [.ref (B' 14)])), (B' 14, .inl (yI, 80, .inl (a' 5))), (B' 15, .inr (3, [.ref (B' 16)])), (B' 16, .inl (yI, 80, .inl (a' 6)))]) (va_runV (As := [.ref (B' 17)]) (rest := []) ⟨hx, hb, hml, hown, hts⟩ (c_X3_copyFrom l D yI yC yO (B 17) (B 18) 3 (B' 17) (B' 18) (a 7) (a' 7) _ (by decide)) (cwV 1 hts gX6_copyFrom_X3_copyFrom rfl rfl rfl (by decide +kernel) ⟨Nat.le_of_ble_eq_true rfl, Nat.le_of_ble_eq_true rfl⟩) (lt_qV hK0 hPc hDc (va_recv hK hPc (ci := 3) (q0 := 0) rfl rfl)) rfl rfl hl.1 rfl (lv_room (Nat.le_of_ble_eq_true rfl)) dX6_copyFrom_30 ⟨Nat.zero_le _, Nat.zero_le _⟩) hP hD hS hA [17, 18, 36, 37] [0, 1, 2, 3, 4, 5, 6, 7, 8, 9, 10, 11, 12, 13, 14, 15, 16, 19, 20, 21, 22, 23, 24, 25, 26, 27, 28, 29, 30, 31, 32, 33, 34, 35] rfl rfl (by decide) (by decide) (fun H locs hP hD hS => ?_)
  have hP := hP.sub (ws' := lt_St yI B (upd (upd i 0 (i' 0)) 2 (i' 2)) (va_up (va_up (va_up (va_up (va_up (va_up (va_up (va_up a 0 (a' 0)) 1 (a' 1)) 2 (a' 2)) 3 (a' 3)) 4 (a' 4)) 5 (a' 5)) 6 (a' 6)) 7 (a' 7)) ++ lt_St yI B' i' a') [0, 1, 2, 3, 4, 5, 6, 7, 8, 9, 10, 11, 12, 13, 14, 15, 16, 34, 35, 17, 18, 19, 20, 21, 22, 23, 24, 25, 26, 27, 28, 29, 30, 31, 32, 33, 36, 37] rfl
  have hD := hD.sub (ws' := lt_St yI B (upd (upd i 0 (i' 0)) 2 (i' 2)) (va_up (va_up (va_up (va_up (va_up (va_up (va_up (va_up a 0 (a' 0)) 1 (a' 1)) 2 (a' 2)) 3 (a' 3)) 4 (a' 4)) 5 (a' 5)) 6 (a' 6)) 7 (a' 7)) ++ lt_St yI B' i' a') [0, 1, 2, 3, 4, 5, 6, 7, 8, 9, 10, 11, 12, 13, 14, 15, 16, 34, 35, 17, 18, 19, 20, 21, 22, 23, 24, 25, 26, 27, 28, 29, 30, 31, 32, 33, 36, 37] (by decide) rfl
  refine lv_aload_n hx hb dX6_copyFrom_33 rfl (lv_at hl 0 rfl) ?_
  refine lv_aload_n hx hb dX6_copyFrom_34 rfl (lv_at hl 1 rfl) ?_
  refine va_get (D := D) (ci := 6) (v := .int (i' 1)) (C := RX6) (T := TX6) (N := 10) hx hb hts iw_X6_copyFrom_6 hown hK hP 19 rfl rfl 3 (by decide) (hts (.fieldLink RX6 56 "LeafTurner$State" "left" "I") (by decide +kernel)) (fun _ h9 => h9) rfl dX6_copyFrom_35 ?_
  refine va_put (D := D) (ci := 6) (v := .int (i' 1)) (ty := .int) (C := RX6) (T := TX6) (N := 10) hx hb hts iw_X6_copyFrom_6 tyX6 tyX6_ok nmX6 hown hK hP hD hS 0 rfl rfl 3 (by decide) (hts (.fieldLink RX6 56 "LeafTurner$State" "left" "I") (by decide +kernel)) (fun _ h9 => h9) rfl (by decide +kernel) rfl rfl (Nat.le_of_ble_eq_true rfl) dX6_copyFrom_38 (fun H locs hP hD hS => ?_)
  have hP : va_P D vwCl (lt_St yI B (upd (upd (upd i 0 (i' 0)) 2 (i' 2)) 1 (i' 1)) (va_up (va_up (va_up (va_up (va_up (va_up (va_up (va_up a 0 (a' 0)) 1 (a' 1)) 2 (a' 2)) 3 (a' 3)) 4 (a' 4)) 5 (a' 5)) 6 (a' 6)) 7 (a' 7)) ++ lt_St yI B' i' a') H := hP
  have hD : va_D A (lt_St yI B (upd (upd (upd i 0 (i' 0)) 2 (i' 2)) 1 (i' 1)) (va_up (va_up (va_up (va_up (va_up (va_up (va_up (va_up a 0 (a' 0)) 1 (a' 1)) 2 (a' 2)) 3 (a' 3)) 4 (a' 4)) 5 (a' 5)) 6 (a' 6)) 7 (a' 7)) ++ lt_St yI B' i' a') := hD
  refine lv_aload_n hx hb dX6_copyFrom_41 rfl (lv_at hl 0 rfl) ?_
  refine lv_aload_n hx hb dX6_copyFrom_42 rfl (lv_at hl 1 rfl) ?_
  refine va_get (D := D) (ci := 6) (v := .int (i' 8)) (C := RX6) (T := TX6) (N := 10) hx hb hts iw_X6_copyFrom_6 hown hK hP 19 rfl rfl 4 (by decide) (hts (.fieldLink RX6 42 "LeafTurner$State" "suction" "I") (by decide +kernel)) (fun _ h9 => h9) rfl dX6_copyFrom_43 ?_
  refine va_put (D := D) (ci := 6) (v := .int (i' 8)) (ty := .int) (C := RX6) (T := TX6) (N := 10) hx hb hts iw_X6_copyFrom_6 tyX6 tyX6_ok nmX6 hown hK hP hD hS 0 rfl rfl 4 (by decide) (hts (.fieldLink RX6 42 "LeafTurner$State" "suction" "I") (by decide +kernel)) (fun _ h9 => h9) rfl (by decide +kernel) rfl rfl (Nat.le_of_ble_eq_true rfl) dX6_copyFrom_46 (fun H locs hP hD hS => ?_)
  have hP : va_P D vwCl (lt_St yI B (upd (upd (upd (upd i 0 (i' 0)) 2 (i' 2)) 1 (i' 1)) 8 (i' 8)) (va_up (va_up (va_up (va_up (va_up (va_up (va_up (va_up a 0 (a' 0)) 1 (a' 1)) 2 (a' 2)) 3 (a' 3)) 4 (a' 4)) 5 (a' 5)) 6 (a' 6)) 7 (a' 7)) ++ lt_St yI B' i' a') H := hP
  have hD : va_D A (lt_St yI B (upd (upd (upd (upd i 0 (i' 0)) 2 (i' 2)) 1 (i' 1)) 8 (i' 8)) (va_up (va_up (va_up (va_up (va_up (va_up (va_up (va_up a 0 (a' 0)) 1 (a' 1)) 2 (a' 2)) 3 (a' 3)) 4 (a' 4)) 5 (a' 5)) 6 (a' 6)) 7 (a' 7)) ++ lt_St yI B' i' a') := hD
  refine lv_aload_n hx hb dX6_copyFrom_49 rfl (lv_at hl 0 rfl) ?_
  refine lv_aload_n hx hb dX6_copyFrom_50 rfl (lv_at hl 1 rfl) ?_
  refine va_get (D := D) (ci := 6) (v := .int (i' 4)) (C := RX6) (T := TX6) (N := 10) hx hb hts iw_X6_copyFrom_6 hown hK hP 19 rfl rfl 5 (by decide) (hts (.fieldLink RX6 59 "LeafTurner$State" "turnings" "I") (by decide +kernel)) (fun _ h9 => h9) rfl dX6_copyFrom_51 ?_
  refine va_put (D := D) (ci := 6) (v := .int (i' 4)) (ty := .int) (C := RX6) (T := TX6) (N := 10) hx hb hts iw_X6_copyFrom_6 tyX6 tyX6_ok nmX6 hown hK hP hD hS 0 rfl rfl 5 (by decide) (hts (.fieldLink RX6 59 "LeafTurner$State" "turnings" "I") (by decide +kernel)) (fun _ h9 => h9) rfl (by decide +kernel) rfl rfl (Nat.le_of_ble_eq_true rfl) dX6_copyFrom_54 (fun H locs hP hD hS => ?_)
  have hP : va_P D vwCl (lt_St yI B (upd (upd (upd (upd (upd i 0 (i' 0)) 2 (i' 2)) 1 (i' 1)) 8 (i' 8)) 4 (i' 4)) (va_up (va_up (va_up (va_up (va_up (va_up (va_up (va_up a 0 (a' 0)) 1 (a' 1)) 2 (a' 2)) 3 (a' 3)) 4 (a' 4)) 5 (a' 5)) 6 (a' 6)) 7 (a' 7)) ++ lt_St yI B' i' a') H := hP
  have hD : va_D A (lt_St yI B (upd (upd (upd (upd (upd i 0 (i' 0)) 2 (i' 2)) 1 (i' 1)) 8 (i' 8)) 4 (i' 4)) (va_up (va_up (va_up (va_up (va_up (va_up (va_up (va_up a 0 (a' 0)) 1 (a' 1)) 2 (a' 2)) 3 (a' 3)) 4 (a' 4)) 5 (a' 5)) 6 (a' 6)) 7 (a' 7)) ++ lt_St yI B' i' a') := hD
  refine lv_aload_n hx hb dX6_copyFrom_57 rfl (lv_at hl 0 rfl) ?_
  refine lv_aload_n hx hb dX6_copyFrom_58 rfl (lv_at hl 1 rfl) ?_
  refine va_get (D := D) (ci := 6) (v := .int (i' 5)) (C := RX6) (T := TX6) (N := 10) hx hb hts iw_X6_copyFrom_6 hown hK hP 19 rfl rfl 6 (by decide) (hts (.fieldLink RX6 62 "LeafTurner$State" "turningsOfMore" "I") (by decide +kernel)) (fun _ h9 => h9) rfl dX6_copyFrom_59 ?_
  refine va_put (D := D) (ci := 6) (v := .int (i' 5)) (ty := .int) (C := RX6) (T := TX6) (N := 10) hx hb hts iw_X6_copyFrom_6 tyX6 tyX6_ok nmX6 hown hK hP hD hS 0 rfl rfl 6 (by decide) (hts (.fieldLink RX6 62 "LeafTurner$State" "turningsOfMore" "I") (by decide +kernel)) (fun _ h9 => h9) rfl (by decide +kernel) rfl rfl (Nat.le_of_ble_eq_true rfl) dX6_copyFrom_62 (fun H locs hP hD hS => ?_)
  have hP : va_P D vwCl (lt_St yI B (upd (upd (upd (upd (upd (upd i 0 (i' 0)) 2 (i' 2)) 1 (i' 1)) 8 (i' 8)) 4 (i' 4)) 5 (i' 5)) (va_up (va_up (va_up (va_up (va_up (va_up (va_up (va_up a 0 (a' 0)) 1 (a' 1)) 2 (a' 2)) 3 (a' 3)) 4 (a' 4)) 5 (a' 5)) 6 (a' 6)) 7 (a' 7)) ++ lt_St yI B' i' a') H := hP
  have hD : va_D A (lt_St yI B (upd (upd (upd (upd (upd (upd i 0 (i' 0)) 2 (i' 2)) 1 (i' 1)) 8 (i' 8)) 4 (i' 4)) 5 (i' 5)) (va_up (va_up (va_up (va_up (va_up (va_up (va_up (va_up a 0 (a' 0)) 1 (a' 1)) 2 (a' 2)) 3 (a' 3)) 4 (a' 4)) 5 (a' 5)) 6 (a' 6)) 7 (a' 7)) ++ lt_St yI B' i' a') := hD
  refine lv_aload_n hx hb dX6_copyFrom_65 rfl (lv_at hl 0 rfl) ?_
  refine lv_aload_n hx hb dX6_copyFrom_66 rfl (lv_at hl 1 rfl) ?_
  refine va_get (D := D) (ci := 6) (v := .int (i' 6)) (C := RX6) (T := TX6) (N := 10) hx hb hts iw_X6_copyFrom_6 hown hK hP 19 rfl rfl 7 (by decide) (hts (.fieldLink RX6 65 "LeafTurner$State" "turningsOfNone" "I") (by decide +kernel)) (fun _ h9 => h9) rfl dX6_copyFrom_67 ?_
  refine va_put (D := D) (ci := 6) (v := .int (i' 6)) (ty := .int) (C := RX6) (T := TX6) (N := 10) hx hb hts iw_X6_copyFrom_6 tyX6 tyX6_ok nmX6 hown hK hP hD hS 0 rfl rfl 7 (by decide) (hts (.fieldLink RX6 65 "LeafTurner$State" "turningsOfNone" "I") (by decide +kernel)) (fun _ h9 => h9) rfl (by decide +kernel) rfl rfl (Nat.le_of_ble_eq_true rfl) dX6_copyFrom_70 (fun H locs hP hD hS => ?_)
  have hP : va_P D vwCl (lt_St yI B (upd (upd (upd (upd (upd (upd (upd i 0 (i' 0)) 2 (i' 2)) 1 (i' 1)) 8 (i' 8)) 4 (i' 4)) 5 (i' 5)) 6 (i' 6)) (va_up (va_up (va_up (va_up (va_up (va_up (va_up (va_up a 0 (a' 0)) 1 (a' 1)) 2 (a' 2)) 3 (a' 3)) 4 (a' 4)) 5 (a' 5)) 6 (a' 6)) 7 (a' 7)) ++ lt_St yI B' i' a') H := hP
  have hD : va_D A (lt_St yI B (upd (upd (upd (upd (upd (upd (upd i 0 (i' 0)) 2 (i' 2)) 1 (i' 1)) 8 (i' 8)) 4 (i' 4)) 5 (i' 5)) 6 (i' 6)) (va_up (va_up (va_up (va_up (va_up (va_up (va_up (va_up a 0 (a' 0)) 1 (a' 1)) 2 (a' 2)) 3 (a' 3)) 4 (a' 4)) 5 (a' 5)) 6 (a' 6)) 7 (a' 7)) ++ lt_St yI B' i' a') := hD
  refine lv_aload_n hx hb dX6_copyFrom_73 rfl (lv_at hl 0 rfl) ?_
  refine lv_aload_n hx hb dX6_copyFrom_74 rfl (lv_at hl 1 rfl) ?_
  refine va_get (D := D) (ci := 6) (v := .int (i' 7)) (C := RX6) (T := TX6) (N := 10) hx hb hts iw_X6_copyFrom_6 hown hK hP 19 rfl rfl 8 (by decide) (hts (.fieldLink RX6 68 "LeafTurner$State" "singlesInRow" "I") (by decide +kernel)) (fun _ h9 => h9) rfl dX6_copyFrom_75 ?_
  refine va_put (D := D) (ci := 6) (v := .int (i' 7)) (ty := .int) (C := RX6) (T := TX6) (N := 10) hx hb hts iw_X6_copyFrom_6 tyX6 tyX6_ok nmX6 hown hK hP hD hS 0 rfl rfl 8 (by decide) (hts (.fieldLink RX6 68 "LeafTurner$State" "singlesInRow" "I") (by decide +kernel)) (fun _ h9 => h9) rfl (by decide +kernel) rfl rfl (Nat.le_of_ble_eq_true rfl) dX6_copyFrom_78 (fun H locs hP hD hS => ?_)
  have hP : va_P D vwCl (lt_St yI B (upd (upd (upd (upd (upd (upd (upd (upd i 0 (i' 0)) 2 (i' 2)) 1 (i' 1)) 8 (i' 8)) 4 (i' 4)) 5 (i' 5)) 6 (i' 6)) 7 (i' 7)) (va_up (va_up (va_up (va_up (va_up (va_up (va_up (va_up a 0 (a' 0)) 1 (a' 1)) 2 (a' 2)) 3 (a' 3)) 4 (a' 4)) 5 (a' 5)) 6 (a' 6)) 7 (a' 7)) ++ lt_St yI B' i' a') H := hP
  have hD : va_D A (lt_St yI B (upd (upd (upd (upd (upd (upd (upd (upd i 0 (i' 0)) 2 (i' 2)) 1 (i' 1)) 8 (i' 8)) 4 (i' 4)) 5 (i' 5)) 6 (i' 6)) 7 (i' 7)) (va_up (va_up (va_up (va_up (va_up (va_up (va_up (va_up a 0 (a' 0)) 1 (a' 1)) 2 (a' 2)) 3 (a' 3)) 4 (a' 4)) 5 (a' 5)) 6 (a' 6)) 7 (a' 7)) ++ lt_St yI B' i' a') := hD
  refine lv_aload_n hx hb dX6_copyFrom_81 rfl (lv_at hl 0 rfl) ?_
  refine lv_aload_n hx hb dX6_copyFrom_82 rfl (lv_at hl 1 rfl) ?_
  refine va_get (D := D) (ci := 6) (v := .int (i' 3)) (C := RX6) (T := TX6) (N := 10) hx hb hts iw_X6_copyFrom_6 hown hK hP 19 rfl rfl 9 (by decide) (hts (.fieldLink RX6 71 "LeafTurner$State" "pairs" "I") (by decide +kernel)) (fun _ h9 => h9) rfl dX6_copyFrom_83 ?_
  refine va_put (D := D) (ci := 6) (v := .int (i' 3)) (ty := .int) (C := RX6) (T := TX6) (N := 10) hx hb hts iw_X6_copyFrom_6 tyX6 tyX6_ok nmX6 hown hK hP hD hS 0 rfl rfl 9 (by decide) (hts (.fieldLink RX6 71 "LeafTurner$State" "pairs" "I") (by decide +kernel)) (fun _ h9 => h9) rfl (by decide +kernel) rfl rfl (Nat.le_of_ble_eq_true rfl) dX6_copyFrom_86 (fun H locs hP hD hS => ?_)
  have hP : va_P D vwCl (lt_St yI B (upd (upd (upd (upd (upd (upd (upd (upd (upd i 0 (i' 0)) 2 (i' 2)) 1 (i' 1)) 8 (i' 8)) 4 (i' 4)) 5 (i' 5)) 6 (i' 6)) 7 (i' 7)) 3 (i' 3)) (va_up (va_up (va_up (va_up (va_up (va_up (va_up (va_up a 0 (a' 0)) 1 (a' 1)) 2 (a' 2)) 3 (a' 3)) 4 (a' 4)) 5 (a' 5)) 6 (a' 6)) 7 (a' 7)) ++ lt_St yI B' i' a') H := hP
  have hD : va_D A (lt_St yI B (upd (upd (upd (upd (upd (upd (upd (upd (upd i 0 (i' 0)) 2 (i' 2)) 1 (i' 1)) 8 (i' 8)) 4 (i' 4)) 5 (i' 5)) 6 (i' 6)) 7 (i' 7)) 3 (i' 3)) (va_up (va_up (va_up (va_up (va_up (va_up (va_up (va_up a 0 (a' 0)) 1 (a' 1)) 2 (a' 2)) 3 (a' 3)) 4 (a' 4)) 5 (a' 5)) 6 (a' 6)) 7 (a' 7)) ++ lt_St yI B' i' a') := hD
  have hP : va_P D vwCl (lt_St yI B i' a' ++ lt_St yI B' i' a') H := hP
  have hD : va_D A (lt_St yI B i' a' ++ lt_St yI B' i' a') := hD
  exact W.vret hx hb hret (fun t ht hW => ⟨⟨(i', a'), rfl, rfl, by rw [ht]; exact hP, hD⟩, hS.F ht⟩) hS.2.2 dX6_copyFrom_89
