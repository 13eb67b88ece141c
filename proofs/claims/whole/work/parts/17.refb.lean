theorem lt_row {b : Nat → Nat → Int32} {f : Nat → Int32} {j : Nat} : va_up b j f j = f := by unfold va_up; rw [if_pos rfl]
theorem lt_rown {b : Nat → Nat → Int32} {f : Nat → Int32} {j k : Nat} (h : k ≠ j) : va_up b j f k = b k := by unfold va_up; rw [if_neg h]
theorem lt_upup {b : Nat → Nat → Int32} {f g : Nat → Int32} {j : Nat} : va_up (va_up b j f) j g = va_up b j g := by
  funext k
  by_cases h : k = j
  · subst h; rw [lt_row, lt_row]
  · rw [lt_rown h, lt_rown h, lt_rown h]
theorem lt_upsw {b : Nat → Nat → Int32} {f f' g : Nat → Int32} {j n : Nat} (h : j ≠ n) : va_up (va_up (va_up b j f) n g) j f' = va_up (va_up b n g) j f' := by
  funext k
  by_cases h1 : k = j
  · subst h1; rw [lt_row, lt_row]
  · by_cases h2 : k = n
    · subst h2; rw [lt_rown h1, lt_row, lt_rown h1, lt_row]
    · rw [lt_rown h1, lt_rown h2, lt_rown h1, lt_rown h1, lt_rown h2]
def X8_records_L10 (i : Nat → Int32) (a : Nat → Nat → Int32) : Nat → (Int32) → (Nat → Nat → Int32) → (Nat → Int32) × (Nat → Nat → Int32)
  | 0, _, _ => (i, a)
  | fu + 1, v2, a0 =>
    if 1596 ≤ v2 then
      let x_63 := X8_lays 532 2128 (a0 0) (a0 2) 0 (532 * ((i 0) - 1))
      ((upd i 0 (((i 0) - 1) + 1)), (va_up a0 2 x_63))
    else
      X8_records_L10 i a fu (v2 + 1) (va_up a0 2 (upd (a0 2) v2.toNatClampNeg ((a0 2) (v2 + 532).toNatClampNeg)))
def S_X8_records_L10 (i : Nat → Int32) (a : Nat → Nat → Int32) : Nat → (Int32) → (Nat → Nat → Int32) → Prop
  | 0, _, _ => True
  | fu + 1, v2, a0 =>
    (1596 ≤ v2 →
      (S_X8_lays 532 2128 (a0 0) (a0 2) 0 (532 * ((i 0) - 1))) ∧
      ∀ x_63, x_63 = X8_lays 532 2128 (a0 0) (a0 2) 0 (532 * ((i 0) - 1)) →
      True) ∧
    (¬ (1596 ≤ v2) →
      (vp_in (v2 + 532) 2128) ∧
      (vp_in v2 2128) ∧
      (S_X8_records_L10 i a fu (v2 + 1) (va_up a0 2 (upd (a0 2) v2.toNatClampNeg ((a0 2) (v2 + 532).toNatClampNeg)))) ∧
      True)
def X8_records (i : Nat → Int32) (a : Nat → Nat → Int32) : (Nat → Int32) × (Nat → Nat → Int32) :=
  if (i 0) = 4 then
    X8_records_L10 i a (((1596 : Int32).toInt - (0 : Int32).toInt).toNat + 1) 0 a
  else
    let x_63 := X8_lays 532 2128 (a 0) (a 2) 0 (532 * (i 0))
    ((upd i 0 ((i 0) + 1)), (va_up a 2 x_63))
def S_X8_records (i : Nat → Int32) (a : Nat → Nat → Int32) : Prop :=
  ((i 0) = 4 →
    (S_X8_records_L10 i a (((1596 : Int32).toInt - (0 : Int32).toInt).toNat + 1) 0 a) ∧
    True) ∧
  (¬ ((i 0) = 4) →
    (S_X8_lays 532 2128 (a 0) (a 2) 0 (532 * (i 0))) ∧
    ∀ x_63, x_63 = X8_lays 532 2128 (a 0) (a 2) 0 (532 * (i 0)) →
    True)
theorem iw_X8_records_8 : ∀ w ∈ wsX80, w ∈ wsX8_records := by decide +kernel
set_option maxHeartbeats 4000000 in
set_option maxRecDepth 100000 in
theorem c_X8_records (l : Launch) (D : va_G) (yI yC yO : ClassId) (M : Nat → Nat) (i : Nat → Int32) (a : Nat → Nat → Int32) (sz : Nat) (hs : S_X8_records i a) : Met l yX8_records wsX8_records ({ frames := 1, cells := 0, slots := 0, locals := 30 }) (va_Pc [.ref (M 0), .ref (M 1)] (lt_M D yI yC yO (lt_Md yI yC M i a) sz)) (lt_Qv D (X8_records i a) (fun u => lt_Md yI yC M u.1 u.2) (va_A (lt_Md yI yC M i a) sz)) 0 0 (va_A (lt_Md yI yC M i a) sz) := by
  refine Met.ofW (cc := cX8_records) (maxL := 3) (ret := none) (by decide) rfl ?_
  intro p e s m args below meth c s₁ B0 hml hv
  obtain ⟨rfl, hsz, hP, hK0, hD0⟩ := hv
  have hx := B0.exec
  have hb := B0.bytes
  have hret := B0.returns
  have hts := atoms_spec (ws := wsX8_records) B0.pre
  have hown : s.vm.findClass RX8 = some m.cls := findClass_of_methodNamed B0.named
  have hlocks := B0.notSynchronized
  have hK := hK0.1
  have hN := hK0.2
  subst hsz
  have hD := hD0.self (sz := s.heap.size)
  generalize hAe : va_A (lt_Md yI yC M i a) s.heap.size = A at hD ⊢
  have hA : ∀ q : Nat, s.heap.size ≤ q → A q := fun q h => by rw [← hAe]; exact Or.inr h
  have hS : va_S A s.heap s.heap [] := va_S.rf
  have hP : va_P D vwCl (lt_Md yI yC M i a) s.heap := hP
  have hD : va_D A (lt_Md yI yC M i a) := hD
  have hl := lv_entry ([.ref (M 0), .ref (M 1)]) (n := 3) (Nat.le_of_ble_eq_true rfl)
  rw [lg_entry_eq]
  generalize (lg_sl ([.ref (M 0), .ref (M 1)]) ++ List.replicate (3 - (lg_sl ([.ref (M 0), .ref (M 1)])).length) Slot.unset).toArray = ls at hl ⊢
  have hl : lv_has ls 3 [(0, .ref (M 0)), (1, .ref (M 1))] := hl
  refine lv_aload_n hx hb dX8_records_0 rfl (lv_at hl 0 rfl) ?_
  refine va_get (D := D) (ci := 8) (v := .int (i 0)) (C := RX8) (T := TX8) (N := 13) hx hb hts iw_X8_records_8 hown hK hP 0 rfl rfl 3 (by decide) (hts (.fieldLink RX8 35 "LeafTurnerModel" "states" "I") (by decide +kernel)) (fun _ h9 => h9) rfl dX8_records_1 ?_
  refine lv_iconst (v := 4) hx hb dX8_records_4 (by decide) ?_
  refine lv_icmp_ne (tgt := 49) hx hb dX8_records_5 (by decide) (fun c_5 => ?_) (fun c_5 => ?_)
  · have hs := hs.2 c_5
    refine lv_aload_n hx hb dX8_records_49 rfl (lv_at hl 1 rfl) ?_
    refine lv_iconst (v := 0) hx hb dX8_records_50 (by decide) ?_
    refine lv_aload_n hx hb dX8_records_51 rfl (lv_at hl 0 rfl) ?_
    refine va_get (D := D) (ci := 8) (v := .ref (M 3)) (C := RX8) (T := TX8) (N := 13) hx hb hts iw_X8_records_8 hown hK hP 0 rfl rfl 2 (by decide) (hts (.fieldLink RX8 16 "LeafTurnerModel" "past" "[I") (by decide +kernel)) (fun _ h9 => h9) rfl dX8_records_52 ?_
    refine lv_sipush (v := 532) hx hb dX8_records_55 (by decide) ?_
    refine lv_aload_n hx hb dX8_records_58 rfl (lv_at hl 0 rfl) ?_
    refine va_get (D := D) (ci := 8) (v := .int (i 0)) (C := RX8) (T := TX8) (N := 13) hx hb hts iw_X8_records_8 hown hK hP 0 rfl rfl 3 (by decide) (hts (.fieldLink RX8 35 "LeafTurnerModel" "states" "I") (by decide +kernel)) (fun _ h9 => h9) rfl dX8_records_59 ?_
    refine lv_imul hx hb dX8_records_62 ?_
    have ho_63 := hs.1; have hs := hs.2
    have hPc := hP.sub (ws' := lt_Ro yI (M 1) 532 (a 0) ++ lt_Ro yI (M 3) 2128 (a 2)) [1, 3] rfl
    have hDc := hD.sub (ws' := lt_Ro yI (M 1) 532 (a 0) ++ lt_Ro yI (M 3) 2128 (a 2)) [1, 3] (by decide) rfl
    refine lt_cWv (wc := lt_Ro yI (M 1) 532 (a 0) ++ lt_Ro yI (M 3) 2128 (a 2)) (wr := [(M 0, .inr (8, [.ref (M 1), .ref (M 2), .ref (M 3), .int (i 0), .ref (M 4), .int (i 1), .ref (M 5), .int (i 2), .ref (M 6), .ref (M 7), .int (i 3), .ref (M 8), .int (i 4)])), (M 2, .inl (yI, 532, .inl (a 1))), (M 4, .inl (yI, 532, .inl (a 3))), (M 5, .inl (yC, 60, .inl (a 4))), (M 6, .inl (yI, 80, .inl (a 5))), (M 7, .inl (yI, 60, .inl (a 6))), (M 8, .inl (yI, 93, .inl (a 7)))]) (va_runS (As := [.ref (M 1), .int 0, .ref (M 3), .int (532 * (i 0))]) (rest := []) ⟨hx, hb, hml, hown, hts⟩ (c_X8_lays l D yI yC yO (M 1) 532 (M 3) 2128 (a 0) (a 2) 0 (532 * (i 0)) _ ho_63) (va_cwS 4 hts gX8_records_X8_lays rfl rfl rfl (by decide +kernel) ⟨Nat.le_of_ble_eq_true rfl, Nat.le_of_ble_eq_true rfl⟩) (lt_qS hK0 hPc hDc) rfl rfl hl.1 rfl (lv_room (Nat.le_of_ble_eq_true rfl)) dX8_records_63 ⟨Nat.zero_le _, Nat.zero_le _⟩) hP hD hS hA [1, 3] [0, 2, 4, 5, 6, 7, 8] rfl rfl (by decide) (by decide) (fun x_63 e_x_63 H locs hP hD hS => ?_)
    have hP := hP.sub (ws' := lt_Md yI yC M i (va_up a 2 x_63)) [0, 7, 1, 8, 2, 3, 4, 5, 6] rfl
    have hD := hD.sub (ws' := lt_Md yI yC M i (va_up a 2 x_63)) [0, 7, 1, 8, 2, 3, 4, 5, 6] (by decide) rfl
    have hs := hs x_63 e_x_63
    refine lv_aload_n hx hb dX8_records_66 rfl (lv_at hl 0 rfl) ?_
    refine lv_dup hx hb dX8_records_67 rfl ?_
    refine va_get (D := D) (ci := 8) (v := .int (i 0)) (C := RX8) (T := TX8) (N := 13) hx hb hts iw_X8_records_8 hown hK hP 0 rfl rfl 3 (by decide) (hts (.fieldLink RX8 35 "LeafTurnerModel" "states" "I") (by decide +kernel)) (fun _ h9 => h9) rfl dX8_records_68 ?_
    refine lv_iconst (v := 1) hx hb dX8_records_71 (by decide) ?_
    refine lv_iadd hx hb dX8_records_72 ?_
    refine va_put (D := D) (ci := 8) (v := .int ((i 0) + 1)) (ty := .int) (C := RX8) (T := TX8) (N := 13) hx hb hts iw_X8_records_8 tyX8 tyX8_ok nmX8 hown hK hP hD hS 0 rfl rfl 3 (by decide) (hts (.fieldLink RX8 35 "LeafTurnerModel" "states" "I") (by decide +kernel)) (fun _ h9 => h9) rfl (by decide +kernel) rfl rfl (Nat.le_of_ble_eq_true rfl) dX8_records_73 (fun H locs hP hD hS => ?_)
    have hP : va_P D vwCl (lt_Md yI yC M (upd i 0 ((i 0) + 1)) (va_up a 2 x_63)) H := hP
    have hD : va_D A (lt_Md yI yC M (upd i 0 ((i 0) + 1)) (va_up a 2 x_63)) := hD
    exact W.vret hx hb hret (fun t ht hW => ⟨⟨((upd i 0 ((i 0) + 1)), (va_up a 2 x_63)), rfl, (by subst e_x_63; exact (Eq.symm (Eq.trans (if_neg c_5) rfl))), by rw [ht]; exact hP, hD⟩, hS.F ht⟩) hS.2.2 dX8_records_76
  · have hs := hs.1 c_5
    refine lv_iconst (v := 0) hx hb dX8_records_8 (by decide) ?_
    refine lv_istore_n (lv' := [(2, .int 0), (0, .ref (M 0)), (1, .ref (M 1))]) hx hb dX8_records_9 rfl hl (by decide) rfl (fun ls hl => ?_)
    refine lt_loop (σ := (Int32) × (Nat → Nat → Int32)) (fun fu (x : (Int32) × (Nat → Nat → Int32)) H locs ls => ∃ (v2 : Int32) (a0 : Nat → Nat → Int32), x = (v2, a0) ∧ lt_fu fu (1596) (v2) ∧ X8_records_L10 i a fu v2 a0 = X8_records i a ∧ S_X8_records_L10 i a fu v2 a0 ∧ va_P D vwCl (lt_Md yI yC M i a0) H ∧ va_D A (lt_Md yI yC M i a0) ∧ va_S A s.heap H locs ∧ lv_has ls 3 [(2, .int v2), (0, .ref (M 0)), (1, .ref (M 1))]) ?_ ?_ (((1596 : Int32).toInt - (0 : Int32).toInt).toNat + 1) (0, a) _ _ _ ⟨0, a, rfl, lt_fuI _ _, (Eq.symm (Eq.trans (if_pos c_5) rfl)), hs.1, hP, hD, hS, (lv_sub hl [0, 1, 2] rfl)⟩
    · rintro x H locs ls ⟨_, _, -, hF, -⟩
      exact lt_fu0 hF
    · rintro fu ih x H locs ls ⟨v2, a0, rfl, hF, hT, hs, hP, hD, hS, hl⟩
      refine lv_iload_n hx hb dX8_records_10 rfl (lv_at hl 0 rfl) ?_
      refine lv_sipush (v := 1596) hx hb dX8_records_11 (by decide) ?_
      refine lv_icmp_ge (tgt := 39) hx hb dX8_records_14 (by decide) (fun c_14 => ?_) (fun c_14 => ?_)
      · have hs := hs.1 c_14
        refine lv_aload_n hx hb dX8_records_39 rfl (lv_at hl 1 rfl) ?_
        refine lv_dup hx hb dX8_records_40 rfl ?_
        refine va_get (D := D) (ci := 8) (v := .int (i 0)) (C := RX8) (T := TX8) (N := 13) hx hb hts iw_X8_records_8 hown hK hP 0 rfl rfl 3 (by decide) (hts (.fieldLink RX8 35 "LeafTurnerModel" "states" "I") (by decide +kernel)) (fun _ h9 => h9) rfl dX8_records_41 ?_
        refine lv_iconst (v := 1) hx hb dX8_records_44 (by decide) ?_
        refine lv_isub hx hb dX8_records_45 ?_
        refine va_put (D := D) (ci := 8) (v := .int ((i 0) - 1)) (ty := .int) (C := RX8) (T := TX8) (N := 13) hx hb hts iw_X8_records_8 tyX8 tyX8_ok nmX8 hown hK hP hD hS 0 rfl rfl 3 (by decide) (hts (.fieldLink RX8 35 "LeafTurnerModel" "states" "I") (by decide +kernel)) (fun _ h9 => h9) rfl (by decide +kernel) rfl rfl (Nat.le_of_ble_eq_true rfl) dX8_records_46 (fun H locs hP hD hS => ?_)
        have hP : va_P D vwCl (lt_Md yI yC M (upd i 0 ((i 0) - 1)) a0) H := hP
        have hD : va_D A (lt_Md yI yC M (upd i 0 ((i 0) - 1)) a0) := hD
        refine lv_aload_n hx hb dX8_records_49 rfl (lv_at hl 2 rfl) ?_
        refine lv_iconst (v := 0) hx hb dX8_records_50 (by decide) ?_
        refine lv_aload_n hx hb dX8_records_51 rfl (lv_at hl 1 rfl) ?_
        refine va_get (D := D) (ci := 8) (v := .ref (M 3)) (C := RX8) (T := TX8) (N := 13) hx hb hts iw_X8_records_8 hown hK hP 0 rfl rfl 2 (by decide) (hts (.fieldLink RX8 16 "LeafTurnerModel" "past" "[I") (by decide +kernel)) (fun _ h9 => h9) rfl dX8_records_52 ?_
        refine lv_sipush (v := 532) hx hb dX8_records_55 (by decide) ?_
        refine lv_aload_n hx hb dX8_records_58 rfl (lv_at hl 1 rfl) ?_
        refine va_get (D := D) (ci := 8) (v := .int ((i 0) - 1)) (C := RX8) (T := TX8) (N := 13) hx hb hts iw_X8_records_8 hown hK hP 0 rfl rfl 3 (by decide) (hts (.fieldLink RX8 35 "LeafTurnerModel" "states" "I") (by decide +kernel)) (fun _ h9 => h9) rfl dX8_records_59 ?_
        refine lv_imul hx hb dX8_records_62 ?_
        have ho_63 := hs.1; have hs := hs.2
        have hPc := hP.sub (ws' := lt_Ro yI (M 1) 532 (a0 0) ++ lt_Ro yI (M 3) 2128 (a0 2)) [1, 3] rfl
        have hDc := hD.sub (ws' := lt_Ro yI (M 1) 532 (a0 0) ++ lt_Ro yI (M 3) 2128 (a0 2)) [1, 3] (by decide) rfl
        refine lt_cWv (wc := lt_Ro yI (M 1) 532 (a0 0) ++ lt_Ro yI (M 3) 2128 (a0 2)) (wr := [(M 0, .inr (8, [.ref (M 1), .ref (M 2), .ref (M 3), .int ((i 0) - 1), .ref (M 4), .int (i 1), .ref (M 5), .int (i 2), .ref (M 6), .ref (M 7), .int (i 3), .ref (M 8), .int (i 4)])), (M 2, .inl (yI, 532, .inl (a0 1))), (M 4, .inl (yI, 532, .inl (a0 3))), (M 5, .inl (yC, 60, .inl (a0 4))), (M 6, .inl (yI, 80, .inl (a0 5))), (M 7, .inl (yI, 60, .inl (a0 6))), (M 8, .inl (yI, 93, .inl (a0 7)))]) (va_runS (As := [.ref (M 1), .int 0, .ref (M 3), .int (532 * ((i 0) - 1))]) (rest := []) ⟨hx, hb, hml, hown, hts⟩ (c_X8_lays l D yI yC yO (M 1) 532 (M 3) 2128 (a0 0) (a0 2) 0 (532 * ((i 0) - 1)) _ ho_63) (va_cwS 4 hts gX8_records_X8_lays rfl rfl rfl (by decide +kernel) ⟨Nat.le_of_ble_eq_true rfl, Nat.le_of_ble_eq_true rfl⟩) (lt_qS hK0 hPc hDc) rfl rfl hl.1 rfl (lv_room (Nat.le_of_ble_eq_true rfl)) dX8_records_63 ⟨Nat.zero_le _, Nat.zero_le _⟩) hP hD hS hA [1, 3] [0, 2, 4, 5, 6, 7, 8] rfl rfl (by decide) (by decide) (fun x_63 e_x_63 H locs hP hD hS => ?_)
        have hP := hP.sub (ws' := lt_Md yI yC M (upd i 0 ((i 0) - 1)) (va_up a0 2 x_63)) [0, 7, 1, 8, 2, 3, 4, 5, 6] rfl
        have hD := hD.sub (ws' := lt_Md yI yC M (upd i 0 ((i 0) - 1)) (va_up a0 2 x_63)) [0, 7, 1, 8, 2, 3, 4, 5, 6] (by decide) rfl
        have hs := hs x_63 e_x_63
        refine lv_aload_n hx hb dX8_records_66 rfl (lv_at hl 1 rfl) ?_
        refine lv_dup hx hb dX8_records_67 rfl ?_
        refine va_get (D := D) (ci := 8) (v := .int ((i 0) - 1)) (C := RX8) (T := TX8) (N := 13) hx hb hts iw_X8_records_8 hown hK hP 0 rfl rfl 3 (by decide) (hts (.fieldLink RX8 35 "LeafTurnerModel" "states" "I") (by decide +kernel)) (fun _ h9 => h9) rfl dX8_records_68 ?_
        refine lv_iconst (v := 1) hx hb dX8_records_71 (by decide) ?_
        refine lv_iadd hx hb dX8_records_72 ?_
        refine va_put (D := D) (ci := 8) (v := .int (((i 0) - 1) + 1)) (ty := .int) (C := RX8) (T := TX8) (N := 13) hx hb hts iw_X8_records_8 tyX8 tyX8_ok nmX8 hown hK hP hD hS 0 rfl rfl 3 (by decide) (hts (.fieldLink RX8 35 "LeafTurnerModel" "states" "I") (by decide +kernel)) (fun _ h9 => h9) rfl (by decide +kernel) rfl rfl (Nat.le_of_ble_eq_true rfl) dX8_records_73 (fun H locs hP hD hS => ?_)
        have hP : va_P D vwCl (lt_Md yI yC M (upd i 0 (((i 0) - 1) + 1)) (va_up a0 2 x_63)) H := hP
        have hD : va_D A (lt_Md yI yC M (upd i 0 (((i 0) - 1) + 1)) (va_up a0 2 x_63)) := hD
        exact W.vret hx hb hret (fun t ht hW => ⟨⟨((upd i 0 (((i 0) - 1) + 1)), (va_up a0 2 x_63)), rfl, (by subst e_x_63; exact (Eq.trans (Eq.symm (Eq.trans (if_pos c_14) rfl)) hT)), by rw [ht]; exact hP, hD⟩, hS.F ht⟩) hS.2.2 dX8_records_76
      · have hs := hs.2 c_14
        refine lv_aload_n hx hb dX8_records_17 rfl (lv_at hl 1 rfl) ?_
        refine va_get (D := D) (ci := 8) (v := .ref (M 3)) (C := RX8) (T := TX8) (N := 13) hx hb hts iw_X8_records_8 hown hK hP 0 rfl rfl 2 (by decide) (hts (.fieldLink RX8 16 "LeafTurnerModel" "past" "[I") (by decide +kernel)) (fun _ h9 => h9) rfl dX8_records_18 ?_
        refine lv_iload_n hx hb dX8_records_21 rfl (lv_at hl 0 rfl) ?_
        refine lv_aload_n hx hb dX8_records_22 rfl (lv_at hl 1 rfl) ?_
        refine va_get (D := D) (ci := 8) (v := .ref (M 3)) (C := RX8) (T := TX8) (N := 13) hx hb hts iw_X8_records_8 hown hK hP 0 rfl rfl 2 (by decide) (hts (.fieldLink RX8 16 "LeafTurnerModel" "past" "[I") (by decide +kernel)) (fun _ h9 => h9) rfl dX8_records_23 ?_
        refine lv_iload_n hx hb dX8_records_26 rfl (lv_at hl 0 rfl) ?_
        refine lv_sipush (v := 532) hx hb dX8_records_27 (by decide) ?_
        refine lv_iadd hx hb dX8_records_30 ?_
        have ho_31 := hs.1; have hs := hs.2
        refine va_iald hx hb hK hP 3 0 rfl rfl (i := (v2 + 532)) (ho_31) dX8_records_31 ?_
        have ho_32 := hs.1; have hs := hs.2
        refine va_iast hx hb hK hP hD hS 3 0 rfl rfl (i := v2) (x := ((a0 2) (v2 + 532).toNatClampNeg)) (ho_32) dX8_records_32 (fun H locs hP hD hS => ?_)
        have hP : va_P D vwCl (lt_Md yI yC M i (va_up a0 2 (upd (a0 2) v2.toNatClampNeg ((a0 2) (v2 + 532).toNatClampNeg)))) H := hP
        have hD : va_D A (lt_Md yI yC M i (va_up a0 2 (upd (a0 2) v2.toNatClampNeg ((a0 2) (v2 + 532).toNatClampNeg)))) := hD
        refine lv_iinc (v := (v2 + 1)) (lv' := [(2, .int (v2 + 1)), (0, .ref (M 0)), (1, .ref (M 1))]) hx hb dX8_records_33 hl (k := 0) rfl (rfl) (by decide) rfl (fun ls hl => ?_)
        refine lv_goto (tgt := 10) hx hb dX8_records_36 (by decide) ?_
        exact ih ((v2 + 1), (va_up a0 2 (upd (a0 2) v2.toNatClampNeg ((a0 2) (v2 + 532).toNatClampNeg)))) _ _ _ ⟨(v2 + 1), (va_up a0 2 (upd (a0 2) v2.toNatClampNeg ((a0 2) (v2 + 532).toNatClampNeg))), rfl, lt_fuS hF (lt_nle c_14), (Eq.trans (Eq.symm (Eq.trans (if_neg c_14) rfl)) hT), hs.1, hP, hD, hS, lv_sub hl [0, 1, 2] rfl⟩

def X8_clears_L24 (i : Nat → Int32) (a : Nat → Nat → Int32) : Nat → (Int32) → (Nat → Nat → Int32) → (Nat → Nat → Int32)
  | 0, _, _ => (a)
  | fu + 1, v1, a0 =>
    if 532 ≤ v1 then
      (a0)
    else
      X8_clears_L24 i a fu (v1 + 1) (va_up a0 0 (upd (a0 0) v1.toNatClampNeg 0))
def S_X8_clears_L24 (i : Nat → Int32) (a : Nat → Nat → Int32) : Nat → (Int32) → (Nat → Nat → Int32) → Prop
  | 0, _, _ => True
  | fu + 1, v1, a0 =>
    (532 ≤ v1 →
      True) ∧
    (¬ (532 ≤ v1) →
      (vp_in v1 532) ∧
      (S_X8_clears_L24 i a fu (v1 + 1) (va_up a0 0 (upd (a0 0) v1.toNatClampNeg 0))) ∧
      True)
def X8_clears_L2 (i : Nat → Int32) (a : Nat → Nat → Int32) : Nat → (Int32) → (Nat → Nat → Int32) → (Nat → Nat → Int32)
  | 0, _, _ => (a)
  | fu + 1, v1, a0 =>
    if 8 ≤ v1 then
      X8_clears_L24 i a (((532 : Int32).toInt - (12 : Int32).toInt).toNat + 1) 12 a0
    else
      X8_clears_L2 i a fu (v1 + 1) (va_up a0 0 (upd (a0 0) v1.toNatClampNeg 0))
def S_X8_clears_L2 (i : Nat → Int32) (a : Nat → Nat → Int32) : Nat → (Int32) → (Nat → Nat → Int32) → Prop
  | 0, _, _ => True
  | fu + 1, v1, a0 =>
    (8 ≤ v1 →
      (S_X8_clears_L24 i a (((532 : Int32).toInt - (12 : Int32).toInt).toNat + 1) 12 a0) ∧
      True) ∧
    (¬ (8 ≤ v1) →
      (vp_in v1 532) ∧
      (S_X8_clears_L2 i a fu (v1 + 1) (va_up a0 0 (upd (a0 0) v1.toNatClampNeg 0))) ∧
      True)
def X8_clears (i : Nat → Int32) (a : Nat → Nat → Int32) : (Nat → Nat → Int32) :=
  X8_clears_L2 i a (((8 : Int32).toInt - (0 : Int32).toInt).toNat + 1) 0 a
def S_X8_clears (i : Nat → Int32) (a : Nat → Nat → Int32) : Prop :=
  (S_X8_clears_L2 i a (((8 : Int32).toInt - (0 : Int32).toInt).toNat + 1) 0 a) ∧
  True
theorem iw_X8_clears_8 : ∀ w ∈ wsX80, w ∈ wsX8_clears := by decide +kernel
set_option maxHeartbeats 4000000 in
set_option maxRecDepth 100000 in
theorem c_X8_clears (l : Launch) (D : va_G) (yI yC yO : ClassId) (M : Nat → Nat) (i : Nat → Int32) (a : Nat → Nat → Int32) (sz : Nat) (hs : S_X8_clears i a) : Met l yX8_clears wsX8_clears ({ frames := 0, cells := 0, slots := 0, locals := 0 }) (va_Pc [.ref (M 0)] (lt_M D yI yC yO (lt_Md yI yC M i a) sz)) (lt_Qv D (X8_clears i a) (fun u => lt_Md yI yC M i u) (va_A (lt_Md yI yC M i a) sz)) 0 0 (va_A (lt_Md yI yC M i a) sz) := by
  refine Met.ofW (cc := cX8_clears) (maxL := 2) (ret := none) (by decide) rfl ?_
  intro p e s m args below meth c s₁ B0 hml hv
  obtain ⟨rfl, hsz, hP, hK0, hD0⟩ := hv
  have hx := B0.exec
  have hb := B0.bytes
  have hret := B0.returns
  have hts := atoms_spec (ws := wsX8_clears) B0.pre
  have hown : s.vm.findClass RX8 = some m.cls := findClass_of_methodNamed B0.named
  have hlocks := B0.notSynchronized
  have hK := hK0.1
  have hN := hK0.2
  subst hsz
  have hD := hD0.self (sz := s.heap.size)
  generalize hAe : va_A (lt_Md yI yC M i a) s.heap.size = A at hD ⊢
  have hA : ∀ q : Nat, s.heap.size ≤ q → A q := fun q h => by rw [← hAe]; exact Or.inr h
  have hS : va_S A s.heap s.heap [] := va_S.rf
  have hP : va_P D vwCl (lt_Md yI yC M i a) s.heap := hP
  have hD : va_D A (lt_Md yI yC M i a) := hD
  have hl := lv_entry ([.ref (M 0)]) (n := 2) (Nat.le_of_ble_eq_true rfl)
  rw [lg_entry_eq]
  generalize (lg_sl ([.ref (M 0)]) ++ List.replicate (2 - (lg_sl ([.ref (M 0)])).length) Slot.unset).toArray = ls at hl ⊢
  have hl : lv_has ls 2 [(0, .ref (M 0))] := hl
  refine lv_iconst (v := 0) hx hb dX8_clears_0 (by decide) ?_
  refine lv_istore_n (lv' := [(1, .int 0), (0, .ref (M 0))]) hx hb dX8_clears_1 rfl hl (by decide) rfl (fun ls hl => ?_)
  refine lt_loop (σ := (Int32) × (Nat → Nat → Int32)) (fun fu (x : (Int32) × (Nat → Nat → Int32)) H locs ls => ∃ (v1 : Int32) (a0 : Nat → Nat → Int32), x = (v1, a0) ∧ lt_fu fu (8) (v1) ∧ X8_clears_L2 i a fu v1 a0 = X8_clears i a ∧ S_X8_clears_L2 i a fu v1 a0 ∧ va_P D vwCl (lt_Md yI yC M i a0) H ∧ va_D A (lt_Md yI yC M i a0) ∧ va_S A s.heap H locs ∧ lv_has ls 2 [(1, .int v1), (0, .ref (M 0))]) ?_ ?_ (((8 : Int32).toInt - (0 : Int32).toInt).toNat + 1) (0, a) _ _ _ ⟨0, a, rfl, lt_fuI _ _, (Eq.symm rfl), hs.1, hP, hD, hS, (lv_sub hl [0, 1] rfl)⟩
  · rintro x H locs ls ⟨_, _, -, hF, -⟩
    exact lt_fu0 hF
  · rintro fu ih x H locs ls ⟨v1, a0, rfl, hF, hT, hs, hP, hD, hS, hl⟩
    refine lv_iload_n hx hb dX8_clears_2 rfl (lv_at hl 0 rfl) ?_
    refine lv_bipush (v := 8) hx hb dX8_clears_3 (by decide) ?_
    refine lv_icmp_ge (tgt := 21) hx hb dX8_clears_5 (by decide) (fun c_5 => ?_) (fun c_5 => ?_)
    · have hs := hs.1 c_5
      refine lv_bipush (v := 12) hx hb dX8_clears_21 (by decide) ?_
      refine lv_istore_n (lv' := [(1, .int 12), (0, .ref (M 0))]) hx hb dX8_clears_23 rfl hl (by decide) rfl (fun ls hl => ?_)
      refine lt_loop (σ := (Int32) × (Nat → Nat → Int32)) (fun fu (x : (Int32) × (Nat → Nat → Int32)) H locs ls => ∃ (v1 : Int32) (a0 : Nat → Nat → Int32), x = (v1, a0) ∧ lt_fu fu (532) (v1) ∧ X8_clears_L24 i a fu v1 a0 = X8_clears i a ∧ S_X8_clears_L24 i a fu v1 a0 ∧ va_P D vwCl (lt_Md yI yC M i a0) H ∧ va_D A (lt_Md yI yC M i a0) ∧ va_S A s.heap H locs ∧ lv_has ls 2 [(1, .int v1), (0, .ref (M 0))]) ?_ ?_ (((532 : Int32).toInt - (12 : Int32).toInt).toNat + 1) (12, a0) _ _ _ ⟨12, a0, rfl, lt_fuI _ _, (Eq.trans (Eq.symm (Eq.trans (if_pos c_5) rfl)) hT), hs.1, hP, hD, hS, (lv_sub hl [0, 1] rfl)⟩
      · rintro x H locs ls ⟨_, _, -, hF, -⟩
        exact lt_fu0 hF
      · rintro fu ih x H locs ls ⟨v1, a0, rfl, hF, hT, hs, hP, hD, hS, hl⟩
        refine lv_iload_n hx hb dX8_clears_24 rfl (lv_at hl 0 rfl) ?_
        refine lv_sipush (v := 532) hx hb dX8_clears_25 (by decide) ?_
        refine lv_icmp_ge (tgt := 44) hx hb dX8_clears_28 (by decide) (fun c_28 => ?_) (fun c_28 => ?_)
        · have hs := hs.1 c_28
          exact W.vret hx hb hret (fun t ht hW => ⟨⟨(a0), rfl, (Eq.trans (Eq.symm (Eq.trans (if_pos c_28) rfl)) hT), by rw [ht]; exact hP, hD⟩, hS.F ht⟩) hS.2.2 dX8_clears_44
        · have hs := hs.2 c_28
          refine lv_aload_n hx hb dX8_clears_31 rfl (lv_at hl 1 rfl) ?_
          refine va_get (D := D) (ci := 8) (v := .ref (M 1)) (C := RX8) (T := TX8) (N := 13) hx hb hts iw_X8_clears_8 hown hK hP 0 rfl rfl 0 (by decide) (hts (.fieldLink RX8 7 "LeafTurnerModel" "now" "[I") (by decide +kernel)) (fun _ h9 => h9) rfl dX8_clears_32 ?_
          refine lv_iload_n hx hb dX8_clears_35 rfl (lv_at hl 0 rfl) ?_
          refine lv_iconst (v := 0) hx hb dX8_clears_36 (by decide) ?_
          have ho_37 := hs.1; have hs := hs.2
          refine va_iast hx hb hK hP hD hS 1 0 rfl rfl (i := v1) (x := 0) (ho_37) dX8_clears_37 (fun H locs hP hD hS => ?_)
          have hP : va_P D vwCl (lt_Md yI yC M i (va_up a0 0 (upd (a0 0) v1.toNatClampNeg 0))) H := hP
          have hD : va_D A (lt_Md yI yC M i (va_up a0 0 (upd (a0 0) v1.toNatClampNeg 0))) := hD
          refine lv_iinc (v := (v1 + 1)) (lv' := [(1, .int (v1 + 1)), (0, .ref (M 0))]) hx hb dX8_clears_38 hl (k := 0) rfl (rfl) (by decide) rfl (fun ls hl => ?_)
          refine lv_goto (tgt := 24) hx hb dX8_clears_41 (by decide) ?_
          exact ih ((v1 + 1), (va_up a0 0 (upd (a0 0) v1.toNatClampNeg 0))) _ _ _ ⟨(v1 + 1), (va_up a0 0 (upd (a0 0) v1.toNatClampNeg 0)), rfl, lt_fuS hF (lt_nle c_28), (Eq.trans (Eq.symm (Eq.trans (if_neg c_28) rfl)) hT), hs.1, hP, hD, hS, lv_sub hl [0, 1] rfl⟩
    · have hs := hs.2 c_5
      refine lv_aload_n hx hb dX8_clears_8 rfl (lv_at hl 1 rfl) ?_
      refine va_get (D := D) (ci := 8) (v := .ref (M 1)) (C := RX8) (T := TX8) (N := 13) hx hb hts iw_X8_clears_8 hown hK hP 0 rfl rfl 0 (by decide) (hts (.fieldLink RX8 7 "LeafTurnerModel" "now" "[I") (by decide +kernel)) (fun _ h9 => h9) rfl dX8_clears_9 ?_
      refine lv_iload_n hx hb dX8_clears_12 rfl (lv_at hl 0 rfl) ?_
      refine lv_iconst (v := 0) hx hb dX8_clears_13 (by decide) ?_
      have ho_14 := hs.1; have hs := hs.2
      refine va_iast hx hb hK hP hD hS 1 0 rfl rfl (i := v1) (x := 0) (ho_14) dX8_clears_14 (fun H locs hP hD hS => ?_)
      have hP : va_P D vwCl (lt_Md yI yC M i (va_up a0 0 (upd (a0 0) v1.toNatClampNeg 0))) H := hP
      have hD : va_D A (lt_Md yI yC M i (va_up a0 0 (upd (a0 0) v1.toNatClampNeg 0))) := hD
      refine lv_iinc (v := (v1 + 1)) (lv' := [(1, .int (v1 + 1)), (0, .ref (M 0))]) hx hb dX8_clears_15 hl (k := 0) rfl (rfl) (by decide) rfl (fun ls hl => ?_)
      refine lv_goto (tgt := 2) hx hb dX8_clears_18 (by decide) ?_
      exact ih ((v1 + 1), (va_up a0 0 (upd (a0 0) v1.toNatClampNeg 0))) _ _ _ ⟨(v1 + 1), (va_up a0 0 (upd (a0 0) v1.toNatClampNeg 0)), rfl, lt_fuS hF (lt_nle c_5), (Eq.trans (Eq.symm (Eq.trans (if_neg c_5) rfl)) hT), hs.1, hP, hD, hS, lv_sub hl [0, 1] rfl⟩

def X8_adds_L36 (i : Nat → Int32) (a : Nat → Nat → Int32) (p0 : Int32) (p1 : Int32) (p2 : Int32) : Nat → (Int32) → (Nat → Nat → Int32) → (Nat → Nat → Int32)
  | 0, _, _ => (a)
  | fu + 1, v5, a0 =>
    if ((2 * ((a 0) 0)) + 2) ≤ v5 then
      ((va_up a0 0 (upd (a0 0) 0 (((a0 0) 0) + 1))))
    else
      if p2 = (-5) then
        X8_adds_L36 i a p0 p1 p2 fu (v5 + 1) (va_up a0 0 (upd (a0 0) (72 + v5).toNatClampNeg (-5)))
      else
        X8_adds_L36 i a p0 p1 p2 fu (v5 + 1) (va_up a0 0 (upd (a0 0) (72 + v5).toNatClampNeg (v5 + p2)))
def S_X8_adds_L36 (i : Nat → Int32) (a : Nat → Nat → Int32) (p0 : Int32) (p1 : Int32) (p2 : Int32) : Nat → (Int32) → (Nat → Nat → Int32) → Prop
  | 0, _, _ => True
  | fu + 1, v5, a0 =>
    (((2 * ((a 0) 0)) + 2) ≤ v5 →
      True) ∧
    (¬ (((2 * ((a 0) 0)) + 2) ≤ v5) →
      (p2 = (-5) →
        (vp_in (72 + v5) 532) ∧
        (S_X8_adds_L36 i a p0 p1 p2 fu (v5 + 1) (va_up a0 0 (upd (a0 0) (72 + v5).toNatClampNeg (-5)))) ∧
        True) ∧
      (¬ (p2 = (-5)) →
        (vp_in (72 + v5) 532) ∧
        (S_X8_adds_L36 i a p0 p1 p2 fu (v5 + 1) (va_up a0 0 (upd (a0 0) (72 + v5).toNatClampNeg (v5 + p2)))) ∧
        True))
def X8_adds (i : Nat → Int32) (a : Nat → Nat → Int32) (p0 : Int32) (p1 : Int32) (p2 : Int32) : (Nat → Nat → Int32) :=
  X8_adds_L36 i a p0 p1 p2 ((((2 * ((a 0) 0)) + 2 : Int32).toInt - ((2 * ((a 0) 0)) : Int32).toInt).toNat + 1) (2 * ((a 0) 0)) (va_up a 0 (upd (upd (a 0) (12 + ((a 0) 0)).toNatClampNeg p0) (42 + ((a 0) 0)).toNatClampNeg p1))
def S_X8_adds (i : Nat → Int32) (a : Nat → Nat → Int32) (p0 : Int32) (p1 : Int32) (p2 : Int32) : Prop :=
  (vp_in (12 + ((a 0) 0)) 532) ∧
  (vp_in (42 + ((a 0) 0)) 532) ∧
  (S_X8_adds_L36 i a p0 p1 p2 ((((2 * ((a 0) 0)) + 2 : Int32).toInt - ((2 * ((a 0) 0)) : Int32).toInt).toNat + 1) (2 * ((a 0) 0)) (va_up a 0 (upd (upd (a 0) (12 + ((a 0) 0)).toNatClampNeg p0) (42 + ((a 0) 0)).toNatClampNeg p1))) ∧
  True
theorem iw_X8_adds_8 : ∀ w ∈ wsX80, w ∈ wsX8_adds := by decide +kernel
set_option maxHeartbeats 4000000 in
set_option maxRecDepth 100000 in
theorem c_X8_adds (l : Launch) (D : va_G) (yI yC yO : ClassId) (M : Nat → Nat) (i : Nat → Int32) (a : Nat → Nat → Int32) (p0 : Int32) (p1 : Int32) (p2 : Int32) (sz : Nat) (hs : S_X8_adds i a p0 p1 p2) : Met l yX8_adds wsX8_adds ({ frames := 0, cells := 0, slots := 0, locals := 0 }) (va_Pc [.ref (M 0), .int p0, .int p1, .int p2] (lt_M D yI yC yO (lt_Md yI yC M i a) sz)) (lt_Qv D (X8_adds i a p0 p1 p2) (fun u => lt_Md yI yC M i u) (va_A (lt_Md yI yC M i a) sz)) 0 0 (va_A (lt_Md yI yC M i a) sz) := by
  refine Met.ofW (cc := cX8_adds) (maxL := 6) (ret := none) (by decide) rfl ?_
  intro p e s m args below meth c s₁ B0 hml hv
  obtain ⟨rfl, hsz, hP, hK0, hD0⟩ := hv
  have hx := B0.exec
  have hb := B0.bytes
  have hret := B0.returns
  have hts := atoms_spec (ws := wsX8_adds) B0.pre
  have hown : s.vm.findClass RX8 = some m.cls := findClass_of_methodNamed B0.named
  have hlocks := B0.notSynchronized
  have hK := hK0.1
  have hN := hK0.2
  subst hsz
  have hD := hD0.self (sz := s.heap.size)
  generalize hAe : va_A (lt_Md yI yC M i a) s.heap.size = A at hD ⊢
  have hA : ∀ q : Nat, s.heap.size ≤ q → A q := fun q h => by rw [← hAe]; exact Or.inr h
  have hS : va_S A s.heap s.heap [] := va_S.rf
  have hP : va_P D vwCl (lt_Md yI yC M i a) s.heap := hP
  have hD : va_D A (lt_Md yI yC M i a) := hD
  have hl := lv_entry ([.ref (M 0), .int p0, .int p1, .int p2]) (n := 6) (Nat.le_of_ble_eq_true rfl)
  rw [lg_entry_eq]
  generalize (lg_sl ([.ref (M 0), .int p0, .int p1, .int p2]) ++ List.replicate (6 - (lg_sl ([.ref (M 0), .int p0, .int p1, .int p2])).length) Slot.unset).toArray = ls at hl ⊢
  have hl : lv_has ls 6 [(0, .ref (M 0)), (1, .int p0), (2, .int p1), (3, .int p2)] := hl
  refine lv_aload_n hx hb dX8_adds_0 rfl (lv_at hl 0 rfl) ?_
  refine va_get (D := D) (ci := 8) (v := .ref (M 1)) (C := RX8) (T := TX8) (N := 13) hx hb hts iw_X8_adds_8 hown hK hP 0 rfl rfl 0 (by decide) (hts (.fieldLink RX8 7 "LeafTurnerModel" "now" "[I") (by decide +kernel)) (fun _ h9 => h9) rfl dX8_adds_1 ?_
  refine lv_iconst (v := 0) hx hb dX8_adds_4 (by decide) ?_
  refine va_iald hx hb hK hP 1 0 rfl rfl (i := 0) (vp_in_iff.mpr (by decide)) dX8_adds_5 ?_
  refine lt_top (y := ((a 0) 0)) rfl ?_
  refine lv_istore (lv' := [(4, .int ((a 0) 0)), (0, .ref (M 0)), (1, .int p0), (2, .int p1), (3, .int p2)]) hx hb dX8_adds_6 hl (by decide) rfl (fun ls hl => ?_)
  refine lv_aload_n hx hb dX8_adds_8 rfl (lv_at hl 1 rfl) ?_
  refine va_get (D := D) (ci := 8) (v := .ref (M 1)) (C := RX8) (T := TX8) (N := 13) hx hb hts iw_X8_adds_8 hown hK hP 0 rfl rfl 0 (by decide) (hts (.fieldLink RX8 7 "LeafTurnerModel" "now" "[I") (by decide +kernel)) (fun _ h9 => h9) rfl dX8_adds_9 ?_
  refine lv_bipush (v := 12) hx hb dX8_adds_12 (by decide) ?_
  refine lv_iload hx hb dX8_adds_14 (lv_at hl 0 rfl) ?_
  refine lv_iadd hx hb dX8_adds_16 ?_
  refine lv_iload_n hx hb dX8_adds_17 rfl (lv_at hl 2 rfl) ?_
  have ho_18 := hs.1; have hs := hs.2
  refine va_iast hx hb hK hP hD hS 1 0 rfl rfl (i := (12 + ((a 0) 0))) (x := p0) (ho_18) dX8_adds_18 (fun H locs hP hD hS => ?_)
  have hP : va_P D vwCl (lt_Md yI yC M i (va_up a 0 (upd (a 0) (12 + ((a 0) 0)).toNatClampNeg p0))) H := hP
  have hD : va_D A (lt_Md yI yC M i (va_up a 0 (upd (a 0) (12 + ((a 0) 0)).toNatClampNeg p0))) := hD
  refine lv_aload_n hx hb dX8_adds_19 rfl (lv_at hl 1 rfl) ?_
  refine va_get (D := D) (ci := 8) (v := .ref (M 1)) (C := RX8) (T := TX8) (N := 13) hx hb hts iw_X8_adds_8 hown hK hP 0 rfl rfl 0 (by decide) (hts (.fieldLink RX8 7 "LeafTurnerModel" "now" "[I") (by decide +kernel)) (fun _ h9 => h9) rfl dX8_adds_20 ?_
  refine lv_bipush (v := 42) hx hb dX8_adds_23 (by decide) ?_
  refine lv_iload hx hb dX8_adds_25 (lv_at hl 0 rfl) ?_
  refine lv_iadd hx hb dX8_adds_27 ?_
  refine lv_iload_n hx hb dX8_adds_28 rfl (lv_at hl 3 rfl) ?_
  have ho_29 := hs.1; have hs := hs.2
  obtain ⟨am_29, eam_29⟩ : ∃ u, u = (va_up a 0 (upd (a 0) (12 + ((a 0) 0)).toNatClampNeg p0)) := ⟨_, rfl⟩
  rw [← eam_29] at hP hD
  refine va_iast hx hb hK hP hD hS 1 0 rfl rfl (i := (42 + ((a 0) 0))) (x := p1) (ho_29) dX8_adds_29 (fun H locs hP hD hS => ?_)
  have hP : va_P D vwCl (lt_Md yI yC M i (va_up am_29 0 (upd (am_29 0) (42 + ((a 0) 0)).toNatClampNeg p1))) H := hP
  have hD : va_D A (lt_Md yI yC M i (va_up am_29 0 (upd (am_29 0) (42 + ((a 0) 0)).toNatClampNeg p1))) := hD
  have eam_29N : (va_up am_29 0 (upd (am_29 0) (42 + ((a 0) 0)).toNatClampNeg p1)) = (va_up a 0 (upd (upd (a 0) (12 + ((a 0) 0)).toNatClampNeg p0) (42 + ((a 0) 0)).toNatClampNeg p1)) := by rw [eam_29]; first | rw [lt_row, lt_upup] | rw [lt_rown (by decide)] | rw [lt_rown (by decide), lt_rown (by decide)] | (rw [lt_rown (by decide), lt_row]; exact lt_upsw (by decide))
  rw [eam_29N] at hP hD
  refine lv_iconst (v := 2) hx hb dX8_adds_30 (by decide) ?_
  refine lv_iload hx hb dX8_adds_31 (lv_at hl 0 rfl) ?_
  refine lv_imul hx hb dX8_adds_33 ?_
  refine lv_istore (lv' := [(5, .int (2 * ((a 0) 0))), (4, .int ((a 0) 0)), (0, .ref (M 0)), (1, .int p0), (2, .int p1), (3, .int p2)]) hx hb dX8_adds_34 hl (by decide) rfl (fun ls hl => ?_)
  refine lt_loop (σ := (Int32) × (Nat → Nat → Int32)) (fun fu (x : (Int32) × (Nat → Nat → Int32)) H locs ls => ∃ (v5 : Int32) (a0 : Nat → Nat → Int32), x = (v5, a0) ∧ lt_fu fu ((2 * ((a 0) 0)) + 2) (v5) ∧ X8_adds_L36 i a p0 p1 p2 fu v5 a0 = X8_adds i a p0 p1 p2 ∧ S_X8_adds_L36 i a p0 p1 p2 fu v5 a0 ∧ va_P D vwCl (lt_Md yI yC M i a0) H ∧ va_D A (lt_Md yI yC M i a0) ∧ va_S A s.heap H locs ∧ lv_has ls 6 [(5, .int v5), (4, .int ((a 0) 0)), (0, .ref (M 0)), (1, .int p0), (2, .int p1), (3, .int p2)]) ?_ ?_ ((((2 * ((a 0) 0)) + 2 : Int32).toInt - ((2 * ((a 0) 0)) : Int32).toInt).toNat + 1) ((2 * ((a 0) 0)), (va_up a 0 (upd (upd (a 0) (12 + ((a 0) 0)).toNatClampNeg p0) (42 + ((a 0) 0)).toNatClampNeg p1))) _ _ _ ⟨(2 * ((a 0) 0)), (va_up a 0 (upd (upd (a 0) (12 + ((a 0) 0)).toNatClampNeg p0) (42 + ((a 0) 0)).toNatClampNeg p1)), rfl, lt_fuI _ _, (Eq.symm rfl), hs.1, hP, hD, hS, (lv_sub hl [0, 1, 2, 3, 4, 5] rfl)⟩
  · rintro x H locs ls ⟨_, _, -, hF, -⟩
    exact lt_fu0 hF
  · rintro fu ih x H locs ls ⟨v5, a0, rfl, hF, hT, hs, hP, hD, hS, hl⟩
    refine lv_iload hx hb dX8_adds_36 (lv_at hl 0 rfl) ?_
    refine lv_iconst (v := 2) hx hb dX8_adds_38 (by decide) ?_
    refine lv_iload hx hb dX8_adds_39 (lv_at hl 1 rfl) ?_
    refine lv_imul hx hb dX8_adds_41 ?_
    refine lv_iconst (v := 2) hx hb dX8_adds_42 (by decide) ?_
    refine lv_iadd hx hb dX8_adds_43 ?_
    refine lv_icmp_ge (tgt := 78) hx hb dX8_adds_44 (by decide) (fun c_44 => ?_) (fun c_44 => ?_)
    · have hs := hs.1 c_44
      refine lv_aload_n hx hb dX8_adds_78 rfl (lv_at hl 2 rfl) ?_
      refine va_get (D := D) (ci := 8) (v := .ref (M 1)) (C := RX8) (T := TX8) (N := 13) hx hb hts iw_X8_adds_8 hown hK hP 0 rfl rfl 0 (by decide) (hts (.fieldLink RX8 7 "LeafTurnerModel" "now" "[I") (by decide +kernel)) (fun _ h9 => h9) rfl dX8_adds_79 ?_
      refine lv_iconst (v := 0) hx hb dX8_adds_82 (by decide) ?_
      refine lv_dup2_11 hx hb dX8_adds_83 rfl rfl ?_
      refine va_iald hx hb hK hP 1 0 rfl rfl (i := 0) (vp_in_iff.mpr (by decide)) dX8_adds_84 ?_
      refine lt_top (y := ((a0 0) 0)) rfl ?_
      refine lv_iconst (v := 1) hx hb dX8_adds_85 (by decide) ?_
      refine lv_iadd hx hb dX8_adds_86 ?_
      refine va_iast hx hb hK hP hD hS 1 0 rfl rfl (i := 0) (x := (((a0 0) 0) + 1)) (vp_in_iff.mpr (by decide)) dX8_adds_87 (fun H locs hP hD hS => ?_)
      have hP : va_P D vwCl (lt_Md yI yC M i (va_up a0 0 (upd (a0 0) 0 (((a0 0) 0) + 1)))) H := hP
      have hD : va_D A (lt_Md yI yC M i (va_up a0 0 (upd (a0 0) 0 (((a0 0) 0) + 1)))) := hD
      exact W.vret hx hb hret (fun t ht hW => ⟨⟨((va_up a0 0 (upd (a0 0) 0 (((a0 0) 0) + 1)))), rfl, (Eq.trans (Eq.symm (Eq.trans (if_pos c_44) rfl)) hT), by rw [ht]; exact hP, hD⟩, hS.F ht⟩) hS.2.2 dX8_adds_88
    · have hs := hs.2 c_44
      refine lv_aload_n hx hb dX8_adds_47 rfl (lv_at hl 2 rfl) ?_
      refine va_get (D := D) (ci := 8) (v := .ref (M 1)) (C := RX8) (T := TX8) (N := 13) hx hb hts iw_X8_adds_8 hown hK hP 0 rfl rfl 0 (by decide) (hts (.fieldLink RX8 7 "LeafTurnerModel" "now" "[I") (by decide +kernel)) (fun _ h9 => h9) rfl dX8_adds_48 ?_
      refine lv_bipush (v := 72) hx hb dX8_adds_51 (by decide) ?_
      refine lv_iload hx hb dX8_adds_53 (lv_at hl 0 rfl) ?_
      refine lv_iadd hx hb dX8_adds_55 ?_
      refine lv_iload_n hx hb dX8_adds_56 rfl (lv_at hl 5 rfl) ?_
      refine lv_bipush (v := (-5)) hx hb dX8_adds_57 (by decide) ?_
      refine lv_icmp_ne (tgt := 67) hx hb dX8_adds_59 (by decide) (fun c_59 => ?_) (fun c_59 => ?_)
      · have hs := hs.2 c_59
        refine lv_iload hx hb dX8_adds_67 (lv_at hl 0 rfl) ?_
        refine lv_iload_n hx hb dX8_adds_69 rfl (lv_at hl 5 rfl) ?_
        refine lv_iadd hx hb dX8_adds_70 ?_
        have ho_71 := hs.1; have hs := hs.2
        refine va_iast hx hb hK hP hD hS 1 0 rfl rfl (i := (72 + v5)) (x := (v5 + p2)) (ho_71) dX8_adds_71 (fun H locs hP hD hS => ?_)
        have hP : va_P D vwCl (lt_Md yI yC M i (va_up a0 0 (upd (a0 0) (72 + v5).toNatClampNeg (v5 + p2)))) H := hP
        have hD : va_D A (lt_Md yI yC M i (va_up a0 0 (upd (a0 0) (72 + v5).toNatClampNeg (v5 + p2)))) := hD
        refine lv_iinc (v := (v5 + 1)) (lv' := [(5, .int (v5 + 1)), (4, .int ((a 0) 0)), (0, .ref (M 0)), (1, .int p0), (2, .int p1), (3, .int p2)]) hx hb dX8_adds_72 hl (k := 0) rfl (rfl) (by decide) rfl (fun ls hl => ?_)
        refine lv_goto (tgt := 36) hx hb dX8_adds_75 (by decide) ?_
        exact ih ((v5 + 1), (va_up a0 0 (upd (a0 0) (72 + v5).toNatClampNeg (v5 + p2)))) _ _ _ ⟨(v5 + 1), (va_up a0 0 (upd (a0 0) (72 + v5).toNatClampNeg (v5 + p2))), rfl, lt_fuS hF (lt_nle c_44), (Eq.trans (Eq.symm (Eq.trans (if_neg c_44) (Eq.trans (if_neg c_59) rfl))) hT), hs.1, hP, hD, hS, lv_sub hl [0, 1, 2, 3, 4, 5] rfl⟩
      · have hs := hs.1 c_59
        refine lv_bipush (v := (-5)) hx hb dX8_adds_62 (by decide) ?_
        refine lv_goto (tgt := 71) hx hb dX8_adds_64 (by decide) ?_
        have ho_71 := hs.1; have hs := hs.2
        refine va_iast hx hb hK hP hD hS 1 0 rfl rfl (i := (72 + v5)) (x := (-5)) (ho_71) dX8_adds_71 (fun H locs hP hD hS => ?_)
        have hP : va_P D vwCl (lt_Md yI yC M i (va_up a0 0 (upd (a0 0) (72 + v5).toNatClampNeg (-5)))) H := hP
        have hD : va_D A (lt_Md yI yC M i (va_up a0 0 (upd (a0 0) (72 + v5).toNatClampNeg (-5)))) := hD
        refine lv_iinc (v := (v5 + 1)) (lv' := [(5, .int (v5 + 1)), (4, .int ((a 0) 0)), (0, .ref (M 0)), (1, .int p0), (2, .int p1), (3, .int p2)]) hx hb dX8_adds_72 hl (k := 0) rfl (rfl) (by decide) rfl (fun ls hl => ?_)
        refine lv_goto (tgt := 36) hx hb dX8_adds_75 (by decide) ?_
        exact ih ((v5 + 1), (va_up a0 0 (upd (a0 0) (72 + v5).toNatClampNeg (-5)))) _ _ _ ⟨(v5 + 1), (va_up a0 0 (upd (a0 0) (72 + v5).toNatClampNeg (-5))), rfl, lt_fuS hF (lt_nle c_44), (Eq.trans (Eq.symm (Eq.trans (if_neg c_44) (Eq.trans (if_pos c_59) rfl))) hT), hs.1, hP, hD, hS, lv_sub hl [0, 1, 2, 3, 4, 5] rfl⟩

def X8_guessesAll_L24 (i : Nat → Int32) (a : Nat → Nat → Int32) : Nat → (Int32) → (Nat → Nat → Int32) → (Nat → Nat → Int32)
  | 0, _, _ => (a)
  | fu + 1, v1, a0 =>
    if ((a0 0) 2) ≤ v1 then
      (a0)
    else
      let r_41 := X8_guess i a0 v1
      let v_51 := (upd (a0 5) v1.toNatClampNeg r_41) v1.toNatClampNeg
      if v_51 = (-5) then
        X8_guessesAll_L24 i a fu (v1 + 1) (va_up a0 5 (upd (a0 5) v1.toNatClampNeg r_41))
      else
        let v_64 := (a0 6) v_51.toNatClampNeg
        if v_64 = (-5) then
          X8_guessesAll_L24 i a fu (v1 + 1) (va_up (va_up a0 5 (upd (a0 5) v1.toNatClampNeg r_41)) 6 (upd (a0 6) v_51.toNatClampNeg v1))
        else
          let r_74 := X8_ofPicture i (va_up a0 5 (upd (a0 5) v1.toNatClampNeg r_41)) v_64 2
          if r_74 = 0 then
            let r_83 := X8_ofPicture i (va_up a0 5 (upd (a0 5) v1.toNatClampNeg r_41)) v1 2
            if r_83 = 1 then
              X8_guessesAll_L24 i a fu (v1 + 1) (va_up (va_up a0 5 (upd (a0 5) v1.toNatClampNeg r_41)) 6 (upd (a0 6) v_51.toNatClampNeg v1))
            else
              X8_guessesAll_L24 i a fu (v1 + 1) (va_up (va_up a0 5 (upd (a0 5) v1.toNatClampNeg r_41)) 6 (upd (a0 6) v_51.toNatClampNeg v_64))
          else
            X8_guessesAll_L24 i a fu (v1 + 1) (va_up (va_up a0 5 (upd (a0 5) v1.toNatClampNeg r_41)) 6 (upd (a0 6) v_51.toNatClampNeg v_64))
def S_X8_guessesAll_L24 (i : Nat → Int32) (a : Nat → Nat → Int32) : Nat → (Int32) → (Nat → Nat → Int32) → Prop
  | 0, _, _ => True
  | fu + 1, v1, a0 =>
    (((a0 0) 2) ≤ v1 →
      True) ∧
    (¬ (((a0 0) 2) ≤ v1) →
      (S_X8_guess i a0 v1) ∧
      ∀ r_41, r_41 = X8_guess i a0 v1 →
      (vp_in v1 80) ∧
      (vp_in v1 80) ∧
      ∀ v_51, v_51 = (upd (a0 5) v1.toNatClampNeg r_41) v1.toNatClampNeg →
      (v_51 = (-5) →
        (S_X8_guessesAll_L24 i a fu (v1 + 1) (va_up a0 5 (upd (a0 5) v1.toNatClampNeg r_41))) ∧
        True) ∧
      (¬ (v_51 = (-5)) →
        (vp_in v_51 60) ∧
        ∀ v_64, v_64 = (a0 6) v_51.toNatClampNeg →
        (v_64 = (-5) →
          (vp_in v_51 60) ∧
          (S_X8_guessesAll_L24 i a fu (v1 + 1) (va_up (va_up a0 5 (upd (a0 5) v1.toNatClampNeg r_41)) 6 (upd (a0 6) v_51.toNatClampNeg v1))) ∧
          True) ∧
        (¬ (v_64 = (-5)) →
          (S_X8_ofPicture i (va_up a0 5 (upd (a0 5) v1.toNatClampNeg r_41)) v_64 2) ∧
          ∀ r_74, r_74 = X8_ofPicture i (va_up a0 5 (upd (a0 5) v1.toNatClampNeg r_41)) v_64 2 →
          (r_74 = 0 →
            (S_X8_ofPicture i (va_up a0 5 (upd (a0 5) v1.toNatClampNeg r_41)) v1 2) ∧
            ∀ r_83, r_83 = X8_ofPicture i (va_up a0 5 (upd (a0 5) v1.toNatClampNeg r_41)) v1 2 →
            (r_83 = 1 →
              (vp_in v_51 60) ∧
              (S_X8_guessesAll_L24 i a fu (v1 + 1) (va_up (va_up a0 5 (upd (a0 5) v1.toNatClampNeg r_41)) 6 (upd (a0 6) v_51.toNatClampNeg v1))) ∧
              True) ∧
            (¬ (r_83 = 1) →
              (vp_in v_51 60) ∧
              (S_X8_guessesAll_L24 i a fu (v1 + 1) (va_up (va_up a0 5 (upd (a0 5) v1.toNatClampNeg r_41)) 6 (upd (a0 6) v_51.toNatClampNeg v_64))) ∧
              True)) ∧
          (¬ (r_74 = 0) →
            (vp_in v_51 60) ∧
            (S_X8_guessesAll_L24 i a fu (v1 + 1) (va_up (va_up a0 5 (upd (a0 5) v1.toNatClampNeg r_41)) 6 (upd (a0 6) v_51.toNatClampNeg v_64))) ∧
            True))))
def X8_guessesAll_L2 (i : Nat → Int32) (a : Nat → Nat → Int32) : Nat → (Int32) → (Nat → Nat → Int32) → (Nat → Nat → Int32)
  | 0, _, _ => (a)
  | fu + 1, v1, a0 =>
    if 60 ≤ v1 then
      X8_guessesAll_L24 i a ((((a0 0) 2 : Int32).toInt - (0 : Int32).toInt).toNat + 1) 0 a0
    else
      X8_guessesAll_L2 i a fu (v1 + 1) (va_up a0 6 (upd (a0 6) v1.toNatClampNeg (-5)))
def S_X8_guessesAll_L2 (i : Nat → Int32) (a : Nat → Nat → Int32) : Nat → (Int32) → (Nat → Nat → Int32) → Prop
  | 0, _, _ => True
  | fu + 1, v1, a0 =>
    (60 ≤ v1 →
      (S_X8_guessesAll_L24 i a ((((a0 0) 2 : Int32).toInt - (0 : Int32).toInt).toNat + 1) 0 a0) ∧
      True) ∧
    (¬ (60 ≤ v1) →
      (vp_in v1 60) ∧
      (S_X8_guessesAll_L2 i a fu (v1 + 1) (va_up a0 6 (upd (a0 6) v1.toNatClampNeg (-5)))) ∧
      True)
def X8_guessesAll (i : Nat → Int32) (a : Nat → Nat → Int32) : (Nat → Nat → Int32) :=
  X8_guessesAll_L2 i a (((60 : Int32).toInt - (0 : Int32).toInt).toNat + 1) 0 a
def S_X8_guessesAll (i : Nat → Int32) (a : Nat → Nat → Int32) : Prop :=
  (S_X8_guessesAll_L2 i a (((60 : Int32).toInt - (0 : Int32).toInt).toNat + 1) 0 a) ∧
  True
theorem iw_X8_guessesAll_8 : ∀ w ∈ wsX80, w ∈ wsX8_guessesAll := by decide +kernel
set_option maxHeartbeats 4000000 in
set_option maxRecDepth 100000 in
theorem c_X8_guessesAll (l : Launch) (D : va_G) (yI yC yO : ClassId) (M : Nat → Nat) (i : Nat → Int32) (a : Nat → Nat → Int32) (sz : Nat) (hs : S_X8_guessesAll i a) : Met l yX8_guessesAll wsX8_guessesAll ({ frames := 3, cells := 0, slots := 0, locals := 90 }) (va_Pc [.ref (M 0)] (lt_M D yI yC yO (lt_Md yI yC M i a) sz)) (lt_Qv D (X8_guessesAll i a) (fun u => lt_Md yI yC M i u) (va_A (lt_Md yI yC M i a) sz)) 0 0 (va_A (lt_Md yI yC M i a) sz) := by
  refine Met.ofW (cc := cX8_guessesAll) (maxL := 5) (ret := none) (by decide) rfl ?_
  intro p e s m args below meth c s₁ B0 hml hv
  obtain ⟨rfl, hsz, hP, hK0, hD0⟩ := hv
  have hx := B0.exec
  have hb := B0.bytes
  have hret := B0.returns
  have hts := atoms_spec (ws := wsX8_guessesAll) B0.pre
  have hown : s.vm.findClass RX8 = some m.cls := findClass_of_methodNamed B0.named
  have hlocks := B0.notSynchronized
  have hK := hK0.1
  have hN := hK0.2
  subst hsz
  have hD := hD0.self (sz := s.heap.size)
  generalize hAe : va_A (lt_Md yI yC M i a) s.heap.size = A at hD ⊢
  have hA : ∀ q : Nat, s.heap.size ≤ q → A q := fun q h => by rw [← hAe]; exact Or.inr h
  have hS : va_S A s.heap s.heap [] := va_S.rf
  have hP : va_P D vwCl (lt_Md yI yC M i a) s.heap := hP
  have hD : va_D A (lt_Md yI yC M i a) := hD
  have hl := lv_entry ([.ref (M 0)]) (n := 5) (Nat.le_of_ble_eq_true rfl)
  rw [lg_entry_eq]
  generalize (lg_sl ([.ref (M 0)]) ++ List.replicate (5 - (lg_sl ([.ref (M 0)])).length) Slot.unset).toArray = ls at hl ⊢
  have hl : lv_has ls 5 [(0, .ref (M 0))] := hl
  refine lv_iconst (v := 0) hx hb dX8_guessesAll_0 (by decide) ?_
  refine lv_istore_n (lv' := [(1, .int 0), (0, .ref (M 0))]) hx hb dX8_guessesAll_1 rfl hl (by decide) rfl (fun ls hl => ?_)
  refine lt_loop (σ := (Int32) × (Nat → Nat → Int32)) (fun fu (x : (Int32) × (Nat → Nat → Int32)) H locs ls => ∃ (v1 : Int32) (a0 : Nat → Nat → Int32), x = (v1, a0) ∧ lt_fu fu (60) (v1) ∧ X8_guessesAll_L2 i a fu v1 a0 = X8_guessesAll i a ∧ S_X8_guessesAll_L2 i a fu v1 a0 ∧ va_P D vwCl (lt_Md yI yC M i a0) H ∧ va_D A (lt_Md yI yC M i a0) ∧ va_S A s.heap H locs ∧ lv_has ls 5 [(1, .int v1), (0, .ref (M 0))]) ?_ ?_ (((60 : Int32).toInt - (0 : Int32).toInt).toNat + 1) (0, a) _ _ _ ⟨0, a, rfl, lt_fuI _ _, (Eq.symm rfl), hs.1, hP, hD, hS, (lv_sub hl [0, 1] rfl)⟩
  · rintro x H locs ls ⟨_, _, -, hF, -⟩
    exact lt_fu0 hF
  · rintro fu ih x H locs ls ⟨v1, a0, rfl, hF, hT, hs, hP, hD, hS, hl⟩
    refine lv_iload_n hx hb dX8_guessesAll_2 rfl (lv_at hl 0 rfl) ?_
    refine lv_bipush (v := 60) hx hb dX8_guessesAll_3 (by decide) ?_
    refine lv_icmp_ge (tgt := 22) hx hb dX8_guessesAll_5 (by decide) (fun c_5 => ?_) (fun c_5 => ?_)
    · have hs := hs.1 c_5
      refine lv_iconst (v := 0) hx hb dX8_guessesAll_22 (by decide) ?_
      refine lv_istore_n (lv' := [(1, .int 0), (0, .ref (M 0))]) hx hb dX8_guessesAll_23 rfl hl (by decide) rfl (fun ls hl => ?_)
      refine lt_loop (σ := (Int32) × (Nat → Nat → Int32)) (fun fu (x : (Int32) × (Nat → Nat → Int32)) H locs ls => ∃ (v1 : Int32) (a0 : Nat → Nat → Int32), x = (v1, a0) ∧ lt_fu fu ((a0 0) 2) (v1) ∧ X8_guessesAll_L24 i a fu v1 a0 = X8_guessesAll i a ∧ S_X8_guessesAll_L24 i a fu v1 a0 ∧ va_P D vwCl (lt_Md yI yC M i a0) H ∧ va_D A (lt_Md yI yC M i a0) ∧ va_S A s.heap H locs ∧ lv_has ls 5 [(1, .int v1), (0, .ref (M 0))]) ?_ ?_ ((((a0 0) 2 : Int32).toInt - (0 : Int32).toInt).toNat + 1) (0, a0) _ _ _ ⟨0, a0, rfl, lt_fuI _ _, (Eq.trans (Eq.symm (Eq.trans (if_pos c_5) rfl)) hT), hs.1, hP, hD, hS, (lv_sub hl [0, 1] rfl)⟩
      · rintro x H locs ls ⟨_, _, -, hF, -⟩
        exact lt_fu0 hF
      · rintro fu ih x H locs ls ⟨v1, a0, rfl, hF, hT, hs, hP, hD, hS, hl⟩
        refine lv_iload_n hx hb dX8_guessesAll_24 rfl (lv_at hl 0 rfl) ?_
        refine lv_aload_n hx hb dX8_guessesAll_25 rfl (lv_at hl 1 rfl) ?_
        refine va_get (D := D) (ci := 8) (v := .ref (M 1)) (C := RX8) (T := TX8) (N := 13) hx hb hts iw_X8_guessesAll_8 hown hK hP 0 rfl rfl 0 (by decide) (hts (.fieldLink RX8 7 "LeafTurnerModel" "now" "[I") (by decide +kernel)) (fun _ h9 => h9) rfl dX8_guessesAll_26 ?_
        refine lv_iconst (v := 2) hx hb dX8_guessesAll_29 (by decide) ?_
        refine va_iald hx hb hK hP 1 0 rfl rfl (i := 2) (vp_in_iff.mpr (by decide)) dX8_guessesAll_30 ?_
        refine lt_top (y := ((a0 0) 2)) rfl ?_
        refine lv_icmp_ge (tgt := 119) hx hb dX8_guessesAll_31 (by decide) (fun c_31 => ?_) (fun c_31 => ?_)
        · have hs := hs.1 c_31
          exact W.vret hx hb hret (fun t ht hW => ⟨⟨(a0), rfl, (Eq.trans (Eq.symm (Eq.trans (if_pos c_31) rfl)) hT), by rw [ht]; exact hP, hD⟩, hS.F ht⟩) hS.2.2 dX8_guessesAll_119
        · have hs := hs.2 c_31
          refine lv_aload_n hx hb dX8_guessesAll_34 rfl (lv_at hl 1 rfl) ?_
          refine va_get (D := D) (ci := 8) (v := .ref (M 6)) (C := RX8) (T := TX8) (N := 13) hx hb hts iw_X8_guessesAll_8 hown hK hP 0 rfl rfl 8 (by decide) (hts (.fieldLink RX8 26 "LeafTurnerModel" "guesses" "[I") (by decide +kernel)) (fun _ h9 => h9) rfl dX8_guessesAll_35 ?_
          refine lv_iload_n hx hb dX8_guessesAll_38 rfl (lv_at hl 0 rfl) ?_
          refine lv_aload_n hx hb dX8_guessesAll_39 rfl (lv_at hl 1 rfl) ?_
          refine lv_iload_n hx hb dX8_guessesAll_40 rfl (lv_at hl 0 rfl) ?_
          have ho_41 := hs.1; have hs := hs.2
          have hPc := hP.sub (ws' := lt_Md yI yC M i a0) [0, 1, 2, 3, 4, 5, 6, 7, 8] rfl
          refine lt_cR (va_runV (As := [.int v1]) (rest := [.int v1, .ref (M 6)]) ⟨hx, hb, hml, hown, hts⟩ (c_X8_guess l D yI yC yO M i a0 v1 ho_41) (cwV 1 hts gX8_guessesAll_X8_guess rfl rfl rfl (by decide +kernel) ⟨Nat.le_of_ble_eq_true rfl, Nat.le_of_ble_eq_true rfl⟩) (lt_pV hK0 hPc (va_recv hK hPc (ci := 8) (q0 := 0) rfl rfl)) rfl rfl hl.1 rfl (lv_room (Nat.le_of_ble_eq_true rfl)) dX8_guessesAll_41 ⟨Nat.zero_le _, Nat.zero_le _⟩) (fun r_41 e_r_41 => ?_)
          have hs := hs r_41 e_r_41
          have ho_44 := hs.1; have hs := hs.2
          refine va_iast hx hb hK hP hD hS 6 0 rfl rfl (i := v1) (x := r_41) (ho_44) dX8_guessesAll_44 (fun H locs hP hD hS => ?_)
          have hP : va_P D vwCl (lt_Md yI yC M i (va_up a0 5 (upd (a0 5) v1.toNatClampNeg r_41))) H := hP
          have hD : va_D A (lt_Md yI yC M i (va_up a0 5 (upd (a0 5) v1.toNatClampNeg r_41))) := hD
          refine lv_aload_n hx hb dX8_guessesAll_45 rfl (lv_at hl 1 rfl) ?_
          refine va_get (D := D) (ci := 8) (v := .ref (M 6)) (C := RX8) (T := TX8) (N := 13) hx hb hts iw_X8_guessesAll_8 hown hK hP 0 rfl rfl 8 (by decide) (hts (.fieldLink RX8 26 "LeafTurnerModel" "guesses" "[I") (by decide +kernel)) (fun _ h9 => h9) rfl dX8_guessesAll_46 ?_
          refine lv_iload_n hx hb dX8_guessesAll_49 rfl (lv_at hl 0 rfl) ?_
          have ho_50 := hs.1; have hs := hs.2
          refine va_iald hx hb hK hP 6 0 rfl rfl (i := v1) (ho_50) dX8_guessesAll_50 ?_
          refine lv_topi (fun v_51 e_v_51 => ?_)
          have hs := hs v_51 e_v_51
          refine lv_istore_n (lv' := [(2, .int v_51), (1, .int v1), (0, .ref (M 0))]) hx hb dX8_guessesAll_51 rfl hl (by decide) rfl (fun ls hl => ?_)
          refine lv_iload_n hx hb dX8_guessesAll_52 rfl (lv_at hl 0 rfl) ?_
          refine lv_bipush (v := (-5)) hx hb dX8_guessesAll_53 (by decide) ?_
          refine lv_icmp_eq (tgt := 113) hx hb dX8_guessesAll_55 (by decide) (fun c_55 => ?_) (fun c_55 => ?_)
          · have hs := hs.1 c_55
            refine lv_iinc (v := (v1 + 1)) (lv' := [(1, .int (v1 + 1)), (2, .int v_51), (0, .ref (M 0))]) hx hb dX8_guessesAll_113 hl (k := 1) rfl (rfl) (by decide) rfl (fun ls hl => ?_)
            refine lv_goto (tgt := 24) hx hb dX8_guessesAll_116 (by decide) ?_
            exact ih ((v1 + 1), (va_up a0 5 (upd (a0 5) v1.toNatClampNeg r_41))) _ _ _ ⟨(v1 + 1), (va_up a0 5 (upd (a0 5) v1.toNatClampNeg r_41)), rfl, lt_fuS hF (lt_nle c_31), (by subst e_v_51 e_r_41; exact (Eq.trans (Eq.symm (Eq.trans (if_neg c_31) (Eq.trans (if_pos c_55) rfl))) hT)), hs.1, hP, hD, hS, lv_sub hl [0, 2] rfl⟩
          · have hs := hs.2 c_55
            refine lv_aload_n hx hb dX8_guessesAll_58 rfl (lv_at hl 2 rfl) ?_
            refine va_get (D := D) (ci := 8) (v := .ref (M 7)) (C := RX8) (T := TX8) (N := 13) hx hb hts iw_X8_guessesAll_8 hown hK hP 0 rfl rfl 9 (by decide) (hts (.fieldLink RX8 29 "LeafTurnerModel" "chosen" "[I") (by decide +kernel)) (fun _ h9 => h9) rfl dX8_guessesAll_59 ?_
            refine lv_iload_n hx hb dX8_guessesAll_62 rfl (lv_at hl 0 rfl) ?_
            have ho_63 := hs.1; have hs := hs.2
            refine va_iald hx hb hK hP 7 0 rfl rfl (i := v_51) (ho_63) dX8_guessesAll_63 ?_
            refine lv_topi (fun v_64 e_v_64 => ?_)
            have hs := hs v_64 e_v_64
            refine lv_istore_n (lv' := [(3, .int v_64), (2, .int v_51), (1, .int v1), (0, .ref (M 0))]) hx hb dX8_guessesAll_64 rfl hl (by decide) rfl (fun ls hl => ?_)
            refine lv_iload_n hx hb dX8_guessesAll_65 rfl (lv_at hl 0 rfl) ?_
            refine lv_bipush (v := (-5)) hx hb dX8_guessesAll_66 (by decide) ?_
            refine lv_icmp_eq (tgt := 90) hx hb dX8_guessesAll_68 (by decide) (fun c_68 => ?_) (fun c_68 => ?_)
            · have hs := hs.1 c_68
              refine lv_iconst (v := 1) hx hb dX8_guessesAll_90 (by decide) ?_
              refine lv_goto (tgt := 95) hx hb dX8_guessesAll_91 (by decide) ?_
              refine lv_istore (lv' := [(4, .int 1), (3, .int v_64), (2, .int v_51), (1, .int v1), (0, .ref (M 0))]) hx hb dX8_guessesAll_95 hl (by decide) rfl (fun ls hl => ?_)
              refine lv_aload_n hx hb dX8_guessesAll_97 rfl (lv_at hl 4 rfl) ?_
              refine va_get (D := D) (ci := 8) (v := .ref (M 7)) (C := RX8) (T := TX8) (N := 13) hx hb hts iw_X8_guessesAll_8 hown hK hP 0 rfl rfl 9 (by decide) (hts (.fieldLink RX8 29 "LeafTurnerModel" "chosen" "[I") (by decide +kernel)) (fun _ h9 => h9) rfl dX8_guessesAll_98 ?_
              refine lv_iload_n hx hb dX8_guessesAll_101 rfl (lv_at hl 2 rfl) ?_
              refine lv_iload hx hb dX8_guessesAll_102 (lv_at hl 0 rfl) ?_
              refine lv_if_eq (tgt := 111) hx hb dX8_guessesAll_104 (by decide) (fun c => absurd c (by decide)) (fun _ => ?_)
              refine lv_iload_n hx hb dX8_guessesAll_107 rfl (lv_at hl 3 rfl) ?_
              refine lv_goto (tgt := 112) hx hb dX8_guessesAll_108 (by decide) ?_
              have ho_112 := hs.1; have hs := hs.2
              obtain ⟨am_112, eam_112⟩ : ∃ u, u = (va_up a0 5 (upd (a0 5) v1.toNatClampNeg r_41)) := ⟨_, rfl⟩
              rw [← eam_112] at hP hD
              refine va_iast hx hb hK hP hD hS 7 0 rfl rfl (i := v_51) (x := v1) (ho_112) dX8_guessesAll_112 (fun H locs hP hD hS => ?_)
              have hP : va_P D vwCl (lt_Md yI yC M i (va_up am_112 6 (upd (am_112 6) v_51.toNatClampNeg v1))) H := hP
              have hD : va_D A (lt_Md yI yC M i (va_up am_112 6 (upd (am_112 6) v_51.toNatClampNeg v1))) := hD
              have eam_112N : (va_up am_112 6 (upd (am_112 6) v_51.toNatClampNeg v1)) = (va_up (va_up a0 5 (upd (a0 5) v1.toNatClampNeg r_41)) 6 (upd (a0 6) v_51.toNatClampNeg v1)) := by rw [eam_112]; first | rw [lt_row, lt_upup] | rw [lt_rown (by decide)] | rw [lt_rown (by decide), lt_rown (by decide)] | (rw [lt_rown (by decide), lt_row]; exact lt_upsw (by decide))
              rw [eam_112N] at hP hD
              refine lv_iinc (v := (v1 + 1)) (lv' := [(1, .int (v1 + 1)), (4, .int 1), (3, .int v_64), (2, .int v_51), (0, .ref (M 0))]) hx hb dX8_guessesAll_113 hl (k := 3) rfl (rfl) (by decide) rfl (fun ls hl => ?_)
              refine lv_goto (tgt := 24) hx hb dX8_guessesAll_116 (by decide) ?_
              exact ih ((v1 + 1), (va_up (va_up a0 5 (upd (a0 5) v1.toNatClampNeg r_41)) 6 (upd (a0 6) v_51.toNatClampNeg v1))) _ _ _ ⟨(v1 + 1), (va_up (va_up a0 5 (upd (a0 5) v1.toNatClampNeg r_41)) 6 (upd (a0 6) v_51.toNatClampNeg v1)), rfl, lt_fuS hF (lt_nle c_31), (by subst e_v_64 e_v_51 e_r_41; exact (Eq.trans (Eq.symm (Eq.trans (if_neg c_31) (Eq.trans (if_neg c_55) (Eq.trans (if_pos c_68) rfl)))) hT)), hs.1, hP, hD, hS, lv_sub hl [0, 4] rfl⟩
            · have hs := hs.2 c_68
              refine lv_aload_n hx hb dX8_guessesAll_71 rfl (lv_at hl 3 rfl) ?_
              refine lv_iload_n hx hb dX8_guessesAll_72 rfl (lv_at hl 0 rfl) ?_
              refine lv_iconst (v := 2) hx hb dX8_guessesAll_73 (by decide) ?_
              have ho_74 := hs.1; have hs := hs.2
              have hPc := hP.sub (ws' := lt_Md yI yC M i (va_up a0 5 (upd (a0 5) v1.toNatClampNeg r_41))) [0, 1, 2, 3, 4, 5, 6, 7, 8] rfl
              refine lt_cR (va_runV (As := [.int v_64, .int 2]) (rest := []) ⟨hx, hb, hml, hown, hts⟩ (c_X8_ofPicture l D yI yC yO M i (va_up a0 5 (upd (a0 5) v1.toNatClampNeg r_41)) v_64 2 ho_74) (cwV 2 hts gX8_guessesAll_X8_ofPicture rfl rfl rfl (by decide +kernel) ⟨Nat.le_of_ble_eq_true rfl, Nat.le_of_ble_eq_true rfl⟩) (lt_pV hK0 hPc (va_recv hK hPc (ci := 8) (q0 := 0) rfl rfl)) rfl rfl hl.1 rfl (lv_room (Nat.le_of_ble_eq_true rfl)) dX8_guessesAll_74 ⟨Nat.zero_le _, Nat.zero_le _⟩) (fun r_74 e_r_74 => ?_)
              have hs := hs r_74 e_r_74
              refine lv_if_ne (tgt := 94) hx hb dX8_guessesAll_77 (by decide) (fun c_77 => ?_) (fun c_77 => ?_)
              · have hs := hs.2 c_77
                refine lv_iconst (v := 0) hx hb dX8_guessesAll_94 (by decide) ?_
                refine lv_istore (lv' := [(4, .int 0), (3, .int v_64), (2, .int v_51), (1, .int v1), (0, .ref (M 0))]) hx hb dX8_guessesAll_95 hl (by decide) rfl (fun ls hl => ?_)
                refine lv_aload_n hx hb dX8_guessesAll_97 rfl (lv_at hl 4 rfl) ?_
                refine va_get (D := D) (ci := 8) (v := .ref (M 7)) (C := RX8) (T := TX8) (N := 13) hx hb hts iw_X8_guessesAll_8 hown hK hP 0 rfl rfl 9 (by decide) (hts (.fieldLink RX8 29 "LeafTurnerModel" "chosen" "[I") (by decide +kernel)) (fun _ h9 => h9) rfl dX8_guessesAll_98 ?_
                refine lv_iload_n hx hb dX8_guessesAll_101 rfl (lv_at hl 2 rfl) ?_
                refine lv_iload hx hb dX8_guessesAll_102 (lv_at hl 0 rfl) ?_
                refine lv_if_eq (tgt := 111) hx hb dX8_guessesAll_104 (by decide) (fun _ => ?_) (fun c => absurd c (by decide))
                refine lv_iload_n hx hb dX8_guessesAll_111 rfl (lv_at hl 1 rfl) ?_
                have ho_112 := hs.1; have hs := hs.2
                obtain ⟨am_112, eam_112⟩ : ∃ u, u = (va_up a0 5 (upd (a0 5) v1.toNatClampNeg r_41)) := ⟨_, rfl⟩
                rw [← eam_112] at hP hD
                refine va_iast hx hb hK hP hD hS 7 0 rfl rfl (i := v_51) (x := v_64) (ho_112) dX8_guessesAll_112 (fun H locs hP hD hS => ?_)
                have hP : va_P D vwCl (lt_Md yI yC M i (va_up am_112 6 (upd (am_112 6) v_51.toNatClampNeg v_64))) H := hP
                have hD : va_D A (lt_Md yI yC M i (va_up am_112 6 (upd (am_112 6) v_51.toNatClampNeg v_64))) := hD
                have eam_112N : (va_up am_112 6 (upd (am_112 6) v_51.toNatClampNeg v_64)) = (va_up (va_up a0 5 (upd (a0 5) v1.toNatClampNeg r_41)) 6 (upd (a0 6) v_51.toNatClampNeg v_64)) := by rw [eam_112]; first | rw [lt_row, lt_upup] | rw [lt_rown (by decide)] | rw [lt_rown (by decide), lt_rown (by decide)] | (rw [lt_rown (by decide), lt_row]; exact lt_upsw (by decide))
                rw [eam_112N] at hP hD
                refine lv_iinc (v := (v1 + 1)) (lv' := [(1, .int (v1 + 1)), (4, .int 0), (3, .int v_64), (2, .int v_51), (0, .ref (M 0))]) hx hb dX8_guessesAll_113 hl (k := 3) rfl (rfl) (by decide) rfl (fun ls hl => ?_)
                refine lv_goto (tgt := 24) hx hb dX8_guessesAll_116 (by decide) ?_
                exact ih ((v1 + 1), (va_up (va_up a0 5 (upd (a0 5) v1.toNatClampNeg r_41)) 6 (upd (a0 6) v_51.toNatClampNeg v_64))) _ _ _ ⟨(v1 + 1), (va_up (va_up a0 5 (upd (a0 5) v1.toNatClampNeg r_41)) 6 (upd (a0 6) v_51.toNatClampNeg v_64)), rfl, lt_fuS hF (lt_nle c_31), (by subst e_r_74 e_v_64 e_v_51 e_r_41; exact (Eq.trans (Eq.symm (Eq.trans (if_neg c_31) (Eq.trans (if_neg c_55) (Eq.trans (if_neg c_68) (Eq.trans (if_neg c_77) rfl))))) hT)), hs.1, hP, hD, hS, lv_sub hl [0, 4] rfl⟩
              · have hs := hs.1 c_77
                refine lv_aload_n hx hb dX8_guessesAll_80 rfl (lv_at hl 3 rfl) ?_
                refine lv_iload_n hx hb dX8_guessesAll_81 rfl (lv_at hl 2 rfl) ?_
                refine lv_iconst (v := 2) hx hb dX8_guessesAll_82 (by decide) ?_
                have ho_83 := hs.1; have hs := hs.2
                have hPc := hP.sub (ws' := lt_Md yI yC M i (va_up a0 5 (upd (a0 5) v1.toNatClampNeg r_41))) [0, 1, 2, 3, 4, 5, 6, 7, 8] rfl
                refine lt_cR (va_runV (As := [.int v1, .int 2]) (rest := []) ⟨hx, hb, hml, hown, hts⟩ (c_X8_ofPicture l D yI yC yO M i (va_up a0 5 (upd (a0 5) v1.toNatClampNeg r_41)) v1 2 ho_83) (cwV 2 hts gX8_guessesAll_X8_ofPicture rfl rfl rfl (by decide +kernel) ⟨Nat.le_of_ble_eq_true rfl, Nat.le_of_ble_eq_true rfl⟩) (lt_pV hK0 hPc (va_recv hK hPc (ci := 8) (q0 := 0) rfl rfl)) rfl rfl hl.1 rfl (lv_room (Nat.le_of_ble_eq_true rfl)) dX8_guessesAll_83 ⟨Nat.zero_le _, Nat.zero_le _⟩) (fun r_83 e_r_83 => ?_)
                have hs := hs r_83 e_r_83
                refine lv_iconst (v := 1) hx hb dX8_guessesAll_86 (by decide) ?_
                refine lv_icmp_ne (tgt := 94) hx hb dX8_guessesAll_87 (by decide) (fun c_87 => ?_) (fun c_87 => ?_)
                · have hs := hs.2 c_87
                  refine lv_iconst (v := 0) hx hb dX8_guessesAll_94 (by decide) ?_
                  refine lv_istore (lv' := [(4, .int 0), (3, .int v_64), (2, .int v_51), (1, .int v1), (0, .ref (M 0))]) hx hb dX8_guessesAll_95 hl (by decide) rfl (fun ls hl => ?_)
                  refine lv_aload_n hx hb dX8_guessesAll_97 rfl (lv_at hl 4 rfl) ?_
                  refine va_get (D := D) (ci := 8) (v := .ref (M 7)) (C := RX8) (T := TX8) (N := 13) hx hb hts iw_X8_guessesAll_8 hown hK hP 0 rfl rfl 9 (by decide) (hts (.fieldLink RX8 29 "LeafTurnerModel" "chosen" "[I") (by decide +kernel)) (fun _ h9 => h9) rfl dX8_guessesAll_98 ?_
                  refine lv_iload_n hx hb dX8_guessesAll_101 rfl (lv_at hl 2 rfl) ?_
                  refine lv_iload hx hb dX8_guessesAll_102 (lv_at hl 0 rfl) ?_
                  refine lv_if_eq (tgt := 111) hx hb dX8_guessesAll_104 (by decide) (fun _ => ?_) (fun c => absurd c (by decide))
                  refine lv_iload_n hx hb dX8_guessesAll_111 rfl (lv_at hl 1 rfl) ?_
                  have ho_112 := hs.1; have hs := hs.2
                  obtain ⟨am_112, eam_112⟩ : ∃ u, u = (va_up a0 5 (upd (a0 5) v1.toNatClampNeg r_41)) := ⟨_, rfl⟩
                  rw [← eam_112] at hP hD
                  refine va_iast hx hb hK hP hD hS 7 0 rfl rfl (i := v_51) (x := v_64) (ho_112) dX8_guessesAll_112 (fun H locs hP hD hS => ?_)
                  have hP : va_P D vwCl (lt_Md yI yC M i (va_up am_112 6 (upd (am_112 6) v_51.toNatClampNeg v_64))) H := hP
                  have hD : va_D A (lt_Md yI yC M i (va_up am_112 6 (upd (am_112 6) v_51.toNatClampNeg v_64))) := hD
                  have eam_112N : (va_up am_112 6 (upd (am_112 6) v_51.toNatClampNeg v_64)) = (va_up (va_up a0 5 (upd (a0 5) v1.toNatClampNeg r_41)) 6 (upd (a0 6) v_51.toNatClampNeg v_64)) := by rw [eam_112]; first | rw [lt_row, lt_upup] | rw [lt_rown (by decide)] | rw [lt_rown (by decide), lt_rown (by decide)] | (rw [lt_rown (by decide), lt_row]; exact lt_upsw (by decide))
                  rw [eam_112N] at hP hD
                  refine lv_iinc (v := (v1 + 1)) (lv' := [(1, .int (v1 + 1)), (4, .int 0), (3, .int v_64), (2, .int v_51), (0, .ref (M 0))]) hx hb dX8_guessesAll_113 hl (k := 3) rfl (rfl) (by decide) rfl (fun ls hl => ?_)
                  refine lv_goto (tgt := 24) hx hb dX8_guessesAll_116 (by decide) ?_
                  exact ih ((v1 + 1), (va_up (va_up a0 5 (upd (a0 5) v1.toNatClampNeg r_41)) 6 (upd (a0 6) v_51.toNatClampNeg v_64))) _ _ _ ⟨(v1 + 1), (va_up (va_up a0 5 (upd (a0 5) v1.toNatClampNeg r_41)) 6 (upd (a0 6) v_51.toNatClampNeg v_64)), rfl, lt_fuS hF (lt_nle c_31), (by subst e_r_83 e_r_74 e_v_64 e_v_51 e_r_41; exact (Eq.trans (Eq.symm (Eq.trans (if_neg c_31) (Eq.trans (if_neg c_55) (Eq.trans (if_neg c_68) (Eq.trans (if_pos c_77) (Eq.trans (if_neg c_87) rfl)))))) hT)), hs.1, hP, hD, hS, lv_sub hl [0, 4] rfl⟩
                · have hs := hs.1 c_87
                  refine lv_iconst (v := 1) hx hb dX8_guessesAll_90 (by decide) ?_
                  refine lv_goto (tgt := 95) hx hb dX8_guessesAll_91 (by decide) ?_
                  refine lv_istore (lv' := [(4, .int 1), (3, .int v_64), (2, .int v_51), (1, .int v1), (0, .ref (M 0))]) hx hb dX8_guessesAll_95 hl (by decide) rfl (fun ls hl => ?_)
                  refine lv_aload_n hx hb dX8_guessesAll_97 rfl (lv_at hl 4 rfl) ?_
                  refine va_get (D := D) (ci := 8) (v := .ref (M 7)) (C := RX8) (T := TX8) (N := 13) hx hb hts iw_X8_guessesAll_8 hown hK hP 0 rfl rfl 9 (by decide) (hts (.fieldLink RX8 29 "LeafTurnerModel" "chosen" "[I") (by decide +kernel)) (fun _ h9 => h9) rfl dX8_guessesAll_98 ?_
                  refine lv_iload_n hx hb dX8_guessesAll_101 rfl (lv_at hl 2 rfl) ?_
                  refine lv_iload hx hb dX8_guessesAll_102 (lv_at hl 0 rfl) ?_
                  refine lv_if_eq (tgt := 111) hx hb dX8_guessesAll_104 (by decide) (fun c => absurd c (by decide)) (fun _ => ?_)
                  refine lv_iload_n hx hb dX8_guessesAll_107 rfl (lv_at hl 3 rfl) ?_
                  refine lv_goto (tgt := 112) hx hb dX8_guessesAll_108 (by decide) ?_
                  have ho_112 := hs.1; have hs := hs.2
                  obtain ⟨am_112, eam_112⟩ : ∃ u, u = (va_up a0 5 (upd (a0 5) v1.toNatClampNeg r_41)) := ⟨_, rfl⟩
                  rw [← eam_112] at hP hD
                  refine va_iast hx hb hK hP hD hS 7 0 rfl rfl (i := v_51) (x := v1) (ho_112) dX8_guessesAll_112 (fun H locs hP hD hS => ?_)
                  have hP : va_P D vwCl (lt_Md yI yC M i (va_up am_112 6 (upd (am_112 6) v_51.toNatClampNeg v1))) H := hP
                  have hD : va_D A (lt_Md yI yC M i (va_up am_112 6 (upd (am_112 6) v_51.toNatClampNeg v1))) := hD
                  have eam_112N : (va_up am_112 6 (upd (am_112 6) v_51.toNatClampNeg v1)) = (va_up (va_up a0 5 (upd (a0 5) v1.toNatClampNeg r_41)) 6 (upd (a0 6) v_51.toNatClampNeg v1)) := by rw [eam_112]; first | rw [lt_row, lt_upup] | rw [lt_rown (by decide)] | rw [lt_rown (by decide), lt_rown (by decide)] | (rw [lt_rown (by decide), lt_row]; exact lt_upsw (by decide))
                  rw [eam_112N] at hP hD
                  refine lv_iinc (v := (v1 + 1)) (lv' := [(1, .int (v1 + 1)), (4, .int 1), (3, .int v_64), (2, .int v_51), (0, .ref (M 0))]) hx hb dX8_guessesAll_113 hl (k := 3) rfl (rfl) (by decide) rfl (fun ls hl => ?_)
                  refine lv_goto (tgt := 24) hx hb dX8_guessesAll_116 (by decide) ?_
                  exact ih ((v1 + 1), (va_up (va_up a0 5 (upd (a0 5) v1.toNatClampNeg r_41)) 6 (upd (a0 6) v_51.toNatClampNeg v1))) _ _ _ ⟨(v1 + 1), (va_up (va_up a0 5 (upd (a0 5) v1.toNatClampNeg r_41)) 6 (upd (a0 6) v_51.toNatClampNeg v1)), rfl, lt_fuS hF (lt_nle c_31), (by subst e_r_83 e_r_74 e_v_64 e_v_51 e_r_41; exact (Eq.trans (Eq.symm (Eq.trans (if_neg c_31) (Eq.trans (if_neg c_55) (Eq.trans (if_neg c_68) (Eq.trans (if_pos c_77) (Eq.trans (if_pos c_87) rfl)))))) hT)), hs.1, hP, hD, hS, lv_sub hl [0, 4] rfl⟩
    · have hs := hs.2 c_5
      refine lv_aload_n hx hb dX8_guessesAll_8 rfl (lv_at hl 1 rfl) ?_
      refine va_get (D := D) (ci := 8) (v := .ref (M 7)) (C := RX8) (T := TX8) (N := 13) hx hb hts iw_X8_guessesAll_8 hown hK hP 0 rfl rfl 9 (by decide) (hts (.fieldLink RX8 29 "LeafTurnerModel" "chosen" "[I") (by decide +kernel)) (fun _ h9 => h9) rfl dX8_guessesAll_9 ?_
      refine lv_iload_n hx hb dX8_guessesAll_12 rfl (lv_at hl 0 rfl) ?_
      refine lv_bipush (v := (-5)) hx hb dX8_guessesAll_13 (by decide) ?_
      have ho_15 := hs.1; have hs := hs.2
      refine va_iast hx hb hK hP hD hS 7 0 rfl rfl (i := v1) (x := (-5)) (ho_15) dX8_guessesAll_15 (fun H locs hP hD hS => ?_)
      have hP : va_P D vwCl (lt_Md yI yC M i (va_up a0 6 (upd (a0 6) v1.toNatClampNeg (-5)))) H := hP
      have hD : va_D A (lt_Md yI yC M i (va_up a0 6 (upd (a0 6) v1.toNatClampNeg (-5)))) := hD
      refine lv_iinc (v := (v1 + 1)) (lv' := [(1, .int (v1 + 1)), (0, .ref (M 0))]) hx hb dX8_guessesAll_16 hl (k := 0) rfl (rfl) (by decide) rfl (fun ls hl => ?_)
      refine lv_goto (tgt := 2) hx hb dX8_guessesAll_19 (by decide) ?_
      exact ih ((v1 + 1), (va_up a0 6 (upd (a0 6) v1.toNatClampNeg (-5)))) _ _ _ ⟨(v1 + 1), (va_up a0 6 (upd (a0 6) v1.toNatClampNeg (-5))), rfl, lt_fuS hF (lt_nle c_5), (Eq.trans (Eq.symm (Eq.trans (if_neg c_5) rfl)) hT), hs.1, hP, hD, hS, lv_sub hl [0, 1] rfl⟩

def X8_type (i : Nat → Int32) (a : Nat → Nat → Int32) (p0 : Int32) : Int32 × ((Nat → Int32) × (Nat → Nat → Int32)) :=
  if (i 2) = 60 then
    ((-3), (i, a))
  else
    (((i 2) + 1), ((upd i 2 ((i 2) + 1)), (va_up a 4 (upd (a 4) (i 2).toNatClampNeg (vp_nar .char p0)))))
def S_X8_type (i : Nat → Int32) (a : Nat → Nat → Int32) (p0 : Int32) : Prop :=
  ((i 2) = 60 →
    True) ∧
  (¬ ((i 2) = 60) →
    (vp_in (i 2) 60) ∧
    True)
theorem iw_X8_type_8 : ∀ w ∈ wsX80, w ∈ wsX8_type := by decide +kernel
set_option maxHeartbeats 4000000 in
set_option maxRecDepth 100000 in
theorem c_X8_type (l : Launch) (D : va_G) (yI yC yO : ClassId) (M : Nat → Nat) (i : Nat → Int32) (a : Nat → Nat → Int32) (p0 : Int32) (sz : Nat) (hs : S_X8_type i a p0) : Met l yX8_type wsX8_type ({ frames := 0, cells := 0, slots := 0, locals := 0 }) (va_Pc [.ref (M 0), .int p0] (lt_M D yI yC yO (lt_Md yI yC M i a) sz)) (lt_Qi D (X8_type i a p0) (fun u => lt_Md yI yC M u.1 u.2) (va_A (lt_Md yI yC M i a) sz)) 0 0 (va_A (lt_Md yI yC M i a) sz) := by
  refine Met.ofW (cc := cX8_type) (maxL := 2) (ret := (some .int)) (by decide) rfl ?_
  intro p e s m args below meth c s₁ B0 hml hv
  obtain ⟨rfl, hsz, hP, hK0, hD0⟩ := hv
  have hx := B0.exec
  have hb := B0.bytes
  have hret := B0.returns
  have hts := atoms_spec (ws := wsX8_type) B0.pre
  have hown : s.vm.findClass RX8 = some m.cls := findClass_of_methodNamed B0.named
  have hlocks := B0.notSynchronized
  have hK := hK0.1
  have hN := hK0.2
  subst hsz
  have hD := hD0.self (sz := s.heap.size)
  generalize hAe : va_A (lt_Md yI yC M i a) s.heap.size = A at hD ⊢
  have hA : ∀ q : Nat, s.heap.size ≤ q → A q := fun q h => by rw [← hAe]; exact Or.inr h
  have hS : va_S A s.heap s.heap [] := va_S.rf
  have hP : va_P D vwCl (lt_Md yI yC M i a) s.heap := hP
  have hD : va_D A (lt_Md yI yC M i a) := hD
  have hl := lv_entry ([.ref (M 0), .int p0]) (n := 2) (Nat.le_of_ble_eq_true rfl)
  rw [lg_entry_eq]
  generalize (lg_sl ([.ref (M 0), .int p0]) ++ List.replicate (2 - (lg_sl ([.ref (M 0), .int p0])).length) Slot.unset).toArray = ls at hl ⊢
  have hl : lv_has ls 2 [(0, .ref (M 0)), (1, .int p0)] := hl
  refine lv_aload_n hx hb dX8_type_0 rfl (lv_at hl 0 rfl) ?_
  refine va_get (D := D) (ci := 8) (v := .int (i 2)) (C := RX8) (T := TX8) (N := 13) hx hb hts iw_X8_type_8 hown hK hP 0 rfl rfl 7 (by decide) (hts (.fieldLink RX8 113 "LeafTurnerModel" "length" "I") (by decide +kernel)) (fun _ h9 => h9) rfl dX8_type_1 ?_
  refine lv_bipush (v := 60) hx hb dX8_type_4 (by decide) ?_
  refine lv_icmp_ne (tgt := 12) hx hb dX8_type_6 (by decide) (fun c_6 => ?_) (fun c_6 => ?_)
  · have hs := hs.2 c_6
    refine lv_aload_n hx hb dX8_type_12 rfl (lv_at hl 0 rfl) ?_
    refine va_get (D := D) (ci := 8) (v := .ref (M 5)) (C := RX8) (T := TX8) (N := 13) hx hb hts iw_X8_type_8 hown hK hP 0 rfl rfl 6 (by decide) (hts (.fieldLink RX8 22 "LeafTurnerModel" "text" "[C") (by decide +kernel)) (fun _ h9 => h9) rfl dX8_type_13 ?_
    refine lv_aload_n hx hb dX8_type_16 rfl (lv_at hl 0 rfl) ?_
    refine va_get (D := D) (ci := 8) (v := .int (i 2)) (C := RX8) (T := TX8) (N := 13) hx hb hts iw_X8_type_8 hown hK hP 0 rfl rfl 7 (by decide) (hts (.fieldLink RX8 113 "LeafTurnerModel" "length" "I") (by decide +kernel)) (fun _ h9 => h9) rfl dX8_type_17 ?_
    refine lv_iload_n hx hb dX8_type_20 rfl (lv_at hl 1 rfl) ?_
    have ho_21 := hs.1; have hs := hs.2
    refine va_cast hx hb hK hP hD hS 5 1 rfl rfl (i := (i 2)) (x := p0) (ho_21) dX8_type_21 (fun H locs hP hD hS => ?_)
    have hP : va_P D vwCl (lt_Md yI yC M i (va_up a 4 (upd (a 4) (i 2).toNatClampNeg (vp_nar .char p0)))) H := hP
    have hD : va_D A (lt_Md yI yC M i (va_up a 4 (upd (a 4) (i 2).toNatClampNeg (vp_nar .char p0)))) := hD
    refine lv_aload_n hx hb dX8_type_22 rfl (lv_at hl 0 rfl) ?_
    refine lv_dup hx hb dX8_type_23 rfl ?_
    refine va_get (D := D) (ci := 8) (v := .int (i 2)) (C := RX8) (T := TX8) (N := 13) hx hb hts iw_X8_type_8 hown hK hP 0 rfl rfl 7 (by decide) (hts (.fieldLink RX8 113 "LeafTurnerModel" "length" "I") (by decide +kernel)) (fun _ h9 => h9) rfl dX8_type_24 ?_
    refine lv_iconst (v := 1) hx hb dX8_type_27 (by decide) ?_
    refine lv_iadd hx hb dX8_type_28 ?_
    refine va_put (D := D) (ci := 8) (v := .int ((i 2) + 1)) (ty := .int) (C := RX8) (T := TX8) (N := 13) hx hb hts iw_X8_type_8 tyX8 tyX8_ok nmX8 hown hK hP hD hS 0 rfl rfl 7 (by decide) (hts (.fieldLink RX8 113 "LeafTurnerModel" "length" "I") (by decide +kernel)) (fun _ h9 => h9) rfl (by decide +kernel) rfl rfl (Nat.le_of_ble_eq_true rfl) dX8_type_29 (fun H locs hP hD hS => ?_)
    have hP : va_P D vwCl (lt_Md yI yC M (upd i 2 ((i 2) + 1)) (va_up a 4 (upd (a 4) (i 2).toNatClampNeg (vp_nar .char p0)))) H := hP
    have hD : va_D A (lt_Md yI yC M (upd i 2 ((i 2) + 1)) (va_up a 4 (upd (a 4) (i 2).toNatClampNeg (vp_nar .char p0)))) := hD
    refine lv_aload_n hx hb dX8_type_32 rfl (lv_at hl 0 rfl) ?_
    refine va_get (D := D) (ci := 8) (v := .int ((i 2) + 1)) (C := RX8) (T := TX8) (N := 13) hx hb hts iw_X8_type_8 hown hK hP 0 rfl rfl 7 (by decide) (hts (.fieldLink RX8 113 "LeafTurnerModel" "length" "I") (by decide +kernel)) (fun _ h9 => h9) rfl dX8_type_33 ?_
    exact W.iret (v := ((i 2) + 1)) hx hb hret (fun t ht hW => ⟨⟨((i 2) + 1), ((upd i 2 ((i 2) + 1)), (va_up a 4 (upd (a 4) (i 2).toNatClampNeg (vp_nar .char p0)))), rfl, (Eq.symm (Eq.trans (if_neg c_6) rfl)), by rw [ht]; exact hP, hD⟩, hS.F ht⟩) hS.2.2 dX8_type_36
  · have hs := hs.1 c_6
    refine lv_bipush (v := (-3)) hx hb dX8_type_9 (by decide) ?_
    exact W.iret (v := (-3)) hx hb hret (fun t ht hW => ⟨⟨(-3), (i, a), rfl, (Eq.symm (Eq.trans (if_pos c_6) rfl)), by rw [ht]; exact hP, hD⟩, hS.F ht⟩) hS.2.2 dX8_type_11

def X8_clearText (i : Nat → Int32) (a : Nat → Nat → Int32) : Int32 × ((Nat → Int32)) :=
  ((i 2), ((upd i 2 0)))
def S_X8_clearText (i : Nat → Int32) (a : Nat → Nat → Int32) : Prop :=
  True
theorem iw_X8_clearText_8 : ∀ w ∈ wsX80, w ∈ wsX8_clearText := by decide +kernel
set_option maxHeartbeats 4000000 in
set_option maxRecDepth 100000 in
theorem c_X8_clearText (l : Launch) (D : va_G) (yI yC yO : ClassId) (M : Nat → Nat) (i : Nat → Int32) (a : Nat → Nat → Int32) (sz : Nat) (hs : S_X8_clearText i a) : Met l yX8_clearText wsX8_clearText ({ frames := 0, cells := 0, slots := 0, locals := 0 }) (va_Pc [.ref (M 0)] (lt_M D yI yC yO (lt_Md yI yC M i a) sz)) (lt_Qi D (X8_clearText i a) (fun u => lt_Md yI yC M u a) (va_A (lt_Md yI yC M i a) sz)) 0 0 (va_A (lt_Md yI yC M i a) sz) := by
  refine Met.ofW (cc := cX8_clearText) (maxL := 2) (ret := (some .int)) (by decide) rfl ?_
  intro p e s m args below meth c s₁ B0 hml hv
  obtain ⟨rfl, hsz, hP, hK0, hD0⟩ := hv
  have hx := B0.exec
  have hb := B0.bytes
  have hret := B0.returns
  have hts := atoms_spec (ws := wsX8_clearText) B0.pre
  have hown : s.vm.findClass RX8 = some m.cls := findClass_of_methodNamed B0.named
  have hlocks := B0.notSynchronized
  have hK := hK0.1
  have hN := hK0.2
  subst hsz
  have hD := hD0.self (sz := s.heap.size)
  generalize hAe : va_A (lt_Md yI yC M i a) s.heap.size = A at hD ⊢
  have hA : ∀ q : Nat, s.heap.size ≤ q → A q := fun q h => by rw [← hAe]; exact Or.inr h
  have hS : va_S A s.heap s.heap [] := va_S.rf
  have hP : va_P D vwCl (lt_Md yI yC M i a) s.heap := hP
  have hD : va_D A (lt_Md yI yC M i a) := hD
  have hl := lv_entry ([.ref (M 0)]) (n := 2) (Nat.le_of_ble_eq_true rfl)
  rw [lg_entry_eq]
  generalize (lg_sl ([.ref (M 0)]) ++ List.replicate (2 - (lg_sl ([.ref (M 0)])).length) Slot.unset).toArray = ls at hl ⊢
  have hl : lv_has ls 2 [(0, .ref (M 0))] := hl
  refine lv_aload_n hx hb dX8_clearText_0 rfl (lv_at hl 0 rfl) ?_
  refine va_get (D := D) (ci := 8) (v := .int (i 2)) (C := RX8) (T := TX8) (N := 13) hx hb hts iw_X8_clearText_8 hown hK hP 0 rfl rfl 7 (by decide) (hts (.fieldLink RX8 113 "LeafTurnerModel" "length" "I") (by decide +kernel)) (fun _ h9 => h9) rfl dX8_clearText_1 ?_
  refine lv_istore_n (lv' := [(1, .int (i 2)), (0, .ref (M 0))]) hx hb dX8_clearText_4 rfl hl (by decide) rfl (fun ls hl => ?_)
  refine lv_aload_n hx hb dX8_clearText_5 rfl (lv_at hl 1 rfl) ?_
  refine lv_iconst (v := 0) hx hb dX8_clearText_6 (by decide) ?_
  refine va_put (D := D) (ci := 8) (v := .int 0) (ty := .int) (C := RX8) (T := TX8) (N := 13) hx hb hts iw_X8_clearText_8 tyX8 tyX8_ok nmX8 hown hK hP hD hS 0 rfl rfl 7 (by decide) (hts (.fieldLink RX8 113 "LeafTurnerModel" "length" "I") (by decide +kernel)) (fun _ h9 => h9) rfl (by decide +kernel) rfl rfl (Nat.le_of_ble_eq_true rfl) dX8_clearText_7 (fun H locs hP hD hS => ?_)
  have hP : va_P D vwCl (lt_Md yI yC M (upd i 2 0) a) H := hP
  have hD : va_D A (lt_Md yI yC M (upd i 2 0) a) := hD
  refine lv_iload_n hx hb dX8_clearText_10 rfl (lv_at hl 0 rfl) ?_
  exact W.iret (v := (i 2)) hx hb hret (fun t ht hW => ⟨⟨(i 2), ((upd i 2 0)), rfl, (Eq.symm rfl), by rw [ht]; exact hP, hD⟩, hS.F ht⟩) hS.2.2 dX8_clearText_11

def X8_sees (i : Nat → Int32) (a : Nat → Nat → Int32) (p0 : Int32) (p1 : Int32) : Int32 :=
  if (i 2) ≤ (i 3) then
    0
  else
    let r_22 := X8_in ((a 4) (i 3).toNatClampNeg) p0 p1
    if r_22 = 0 then
      0
    else
      1
def S_X8_sees (i : Nat → Int32) (a : Nat → Nat → Int32) (p0 : Int32) (p1 : Int32) : Prop :=
  ((i 2) ≤ (i 3) →
    True) ∧
  (¬ ((i 2) ≤ (i 3)) →
    (vp_in (i 3) 60) ∧
    ∀ r_22, r_22 = X8_in ((a 4) (i 3).toNatClampNeg) p0 p1 →
    (r_22 = 0 →
      True) ∧
    (¬ (r_22 = 0) →
      True))
theorem iw_X8_sees_8 : ∀ w ∈ wsX80, w ∈ wsX8_sees := by decide +kernel
set_option maxHeartbeats 4000000 in
set_option maxRecDepth 100000 in
theorem c_X8_sees (l : Launch) (D : va_G) (yI yC yO : ClassId) (M : Nat → Nat) (i : Nat → Int32) (a : Nat → Nat → Int32) (p0 : Int32) (p1 : Int32) (hs : S_X8_sees i a p0 p1) : Met l yX8_sees wsX8_sees ({ frames := 1, cells := 0, slots := 0, locals := 30 }) (va_Pc [.ref (M 0), .int p0, .int p1] (lt_R D yI yC yO (lt_Md yI yC M i a))) (lt_Si (X8_sees i a p0 p1)) 0 0 (fun _ => False) := by
  refine Met.ofW (cc := cX8_sees) (maxL := 3) (ret := (some .boolean)) (by decide) rfl ?_
  intro p e s m args below meth c s₁ B0 hml hv
  obtain ⟨rfl, hP, hK0⟩ := hv
  have hx := B0.exec
  have hb := B0.bytes
  have hret := B0.returns
  have hts := atoms_spec (ws := wsX8_sees) B0.pre
  have hown : s.vm.findClass RX8 = some m.cls := findClass_of_methodNamed B0.named
  have hlocks := B0.notSynchronized
  have hK := hK0.1
  have hN := hK0.2
  have hP : va_P D vwCl (lt_Md yI yC M i a) s.heap := hP
  have hl := lv_entry ([.ref (M 0), .int p0, .int p1]) (n := 3) (Nat.le_of_ble_eq_true rfl)
  rw [lg_entry_eq]
  generalize (lg_sl ([.ref (M 0), .int p0, .int p1]) ++ List.replicate (3 - (lg_sl ([.ref (M 0), .int p0, .int p1])).length) Slot.unset).toArray = ls at hl ⊢
  have hl : lv_has ls 3 [(0, .ref (M 0)), (1, .int p0), (2, .int p1)] := hl
  refine lv_aload_n hx hb dX8_sees_0 rfl (lv_at hl 0 rfl) ?_
  refine va_get (D := D) (ci := 8) (v := .int (i 3)) (C := RX8) (T := TX8) (N := 13) hx hb hts iw_X8_sees_8 hown hK hP 0 rfl rfl 10 (by decide) (hts (.fieldLink RX8 116 "LeafTurnerModel" "spot" "I") (by decide +kernel)) (fun _ h9 => h9) rfl dX8_sees_1 ?_
  refine lv_aload_n hx hb dX8_sees_4 rfl (lv_at hl 0 rfl) ?_
  refine va_get (D := D) (ci := 8) (v := .int (i 2)) (C := RX8) (T := TX8) (N := 13) hx hb hts iw_X8_sees_8 hown hK hP 0 rfl rfl 7 (by decide) (hts (.fieldLink RX8 113 "LeafTurnerModel" "length" "I") (by decide +kernel)) (fun _ h9 => h9) rfl dX8_sees_5 ?_
  refine lv_icmp_ge (tgt := 32) hx hb dX8_sees_8 (by decide) (fun c_8 => ?_) (fun c_8 => ?_)
  · have hs := hs.1 c_8
    refine lv_iconst (v := 0) hx hb dX8_sees_32 (by decide) ?_
    exact W.zret (v := 0) hx hb hret lt_z0 (fun t ht hW => ⟨0, rfl, (Eq.symm (Eq.trans (if_pos c_8) rfl)), ht⟩) (fun _ h => absurd h List.not_mem_nil) dX8_sees_33
  · have hs := hs.2 c_8
    refine lv_aload_n hx hb dX8_sees_11 rfl (lv_at hl 0 rfl) ?_
    refine va_get (D := D) (ci := 8) (v := .ref (M 5)) (C := RX8) (T := TX8) (N := 13) hx hb hts iw_X8_sees_8 hown hK hP 0 rfl rfl 6 (by decide) (hts (.fieldLink RX8 22 "LeafTurnerModel" "text" "[C") (by decide +kernel)) (fun _ h9 => h9) rfl dX8_sees_12 ?_
    refine lv_aload_n hx hb dX8_sees_15 rfl (lv_at hl 0 rfl) ?_
    refine va_get (D := D) (ci := 8) (v := .int (i 3)) (C := RX8) (T := TX8) (N := 13) hx hb hts iw_X8_sees_8 hown hK hP 0 rfl rfl 10 (by decide) (hts (.fieldLink RX8 116 "LeafTurnerModel" "spot" "I") (by decide +kernel)) (fun _ h9 => h9) rfl dX8_sees_16 ?_
    have ho_19 := hs.1; have hs := hs.2
    refine va_cald hx hb hK hP 5 1 rfl rfl (i := (i 3)) (ho_19) dX8_sees_19 ?_
    refine lv_iload_n hx hb dX8_sees_20 rfl (lv_at hl 1 rfl) ?_
    refine lv_iload_n hx hb dX8_sees_21 rfl (lv_at hl 2 rfl) ?_
    have hPc := hP.sub (ws' := ([] : va_W)) [] rfl
    refine lt_cR (va_runS (As := [.int ((a 4) (i 3).toNatClampNeg), .int p0, .int p1]) (rest := []) ⟨hx, hb, hml, hown, hts⟩ (c_X8_in l D yI yC yO ((a 4) (i 3).toNatClampNeg) p0 p1 ) (va_cwS 3 hts gX8_sees_X8_in rfl rfl rfl (by decide +kernel) ⟨Nat.le_of_ble_eq_true rfl, Nat.le_of_ble_eq_true rfl⟩) (lt_pS hK0 hPc) rfl rfl hl.1 rfl (lv_room (Nat.le_of_ble_eq_true rfl)) dX8_sees_22 ⟨Nat.zero_le _, Nat.zero_le _⟩) (fun r_22 e_r_22 => ?_)
    have hs := hs r_22 e_r_22
    refine lv_if_eq (tgt := 32) hx hb dX8_sees_25 (by decide) (fun c_25 => ?_) (fun c_25 => ?_)
    · have hs := hs.1 c_25
      refine lv_iconst (v := 0) hx hb dX8_sees_32 (by decide) ?_
      exact W.zret (v := 0) hx hb hret lt_z0 (fun t ht hW => ⟨0, rfl, (by subst e_r_22; exact (Eq.symm (Eq.trans (if_neg c_8) (Eq.trans (if_pos c_25) rfl)))), ht⟩) (fun _ h => absurd h List.not_mem_nil) dX8_sees_33
    · have hs := hs.2 c_25
      refine lv_iconst (v := 1) hx hb dX8_sees_28 (by decide) ?_
      refine lv_goto (tgt := 33) hx hb dX8_sees_29 (by decide) ?_
      exact W.zret (v := 1) hx hb hret lt_z1 (fun t ht hW => ⟨1, rfl, (by subst e_r_22; exact (Eq.symm (Eq.trans (if_neg c_8) (Eq.trans (if_neg c_25) rfl)))), ht⟩) (fun _ h => absurd h List.not_mem_nil) dX8_sees_33

theorem lt_sees01 {i : Nat → Int32} {a : Nat → Nat → Int32} {p0 p1 r : Int32} (e : r = X8_sees i a p0 p1) : r = 0 ∨ r = 1 := by
  subst e
  unfold X8_sees
  split
  · exact Or.inl rfl
  · dsimp only
    split
    · exact Or.inl rfl
    · exact Or.inr rfl

def X8_takesSign (i : Nat → Int32) (a : Nat → Nat → Int32) (p0 : Int32) : Int32 × ((Nat → Int32)) :=
  let r_3 := X8_sees i a p0 p0
  if r_3 = 0 then
    (r_3, ((upd i 3 ((i 3) + 0))))
  else
    (r_3, ((upd i 3 ((i 3) + 1))))
def S_X8_takesSign (i : Nat → Int32) (a : Nat → Nat → Int32) (p0 : Int32) : Prop :=
  (S_X8_sees i a p0 p0) ∧
  ∀ r_3, r_3 = X8_sees i a p0 p0 →
  (r_3 = 0 →
    True) ∧
  (¬ (r_3 = 0) →
    True)
theorem iw_X8_takesSign_8 : ∀ w ∈ wsX80, w ∈ wsX8_takesSign := by decide +kernel
set_option maxHeartbeats 4000000 in
set_option maxRecDepth 100000 in
theorem c_X8_takesSign (l : Launch) (D : va_G) (yI yC yO : ClassId) (M : Nat → Nat) (i : Nat → Int32) (a : Nat → Nat → Int32) (p0 : Int32) (sz : Nat) (hs : S_X8_takesSign i a p0) : Met l yX8_takesSign wsX8_takesSign ({ frames := 2, cells := 0, slots := 0, locals := 60 }) (va_Pc [.ref (M 0), .int p0] (lt_M D yI yC yO (lt_Md yI yC M i a) sz)) (lt_Qi D (X8_takesSign i a p0) (fun u => lt_Md yI yC M u a) (va_A (lt_Md yI yC M i a) sz)) 0 0 (va_A (lt_Md yI yC M i a) sz) := by
  refine Met.ofW (cc := cX8_takesSign) (maxL := 3) (ret := (some .boolean)) (by decide) rfl ?_
  intro p e s m args below meth c s₁ B0 hml hv
  obtain ⟨rfl, hsz, hP, hK0, hD0⟩ := hv
  have hx := B0.exec
  have hb := B0.bytes
  have hret := B0.returns
  have hts := atoms_spec (ws := wsX8_takesSign) B0.pre
  have hown : s.vm.findClass RX8 = some m.cls := findClass_of_methodNamed B0.named
  have hlocks := B0.notSynchronized
  have hK := hK0.1
  have hN := hK0.2
  subst hsz
  have hD := hD0.self (sz := s.heap.size)
  generalize hAe : va_A (lt_Md yI yC M i a) s.heap.size = A at hD ⊢
  have hA : ∀ q : Nat, s.heap.size ≤ q → A q := fun q h => by rw [← hAe]; exact Or.inr h
  have hS : va_S A s.heap s.heap [] := va_S.rf
  have hP : va_P D vwCl (lt_Md yI yC M i a) s.heap := hP
  have hD : va_D A (lt_Md yI yC M i a) := hD
  have hl := lv_entry ([.ref (M 0), .int p0]) (n := 3) (Nat.le_of_ble_eq_true rfl)
  rw [lg_entry_eq]
  generalize (lg_sl ([.ref (M 0), .int p0]) ++ List.replicate (3 - (lg_sl ([.ref (M 0), .int p0])).length) Slot.unset).toArray = ls at hl ⊢
  have hl : lv_has ls 3 [(0, .ref (M 0)), (1, .int p0)] := hl
  refine lv_aload_n hx hb dX8_takesSign_0 rfl (lv_at hl 0 rfl) ?_
  refine lv_iload_n hx hb dX8_takesSign_1 rfl (lv_at hl 1 rfl) ?_
  refine lv_iload_n hx hb dX8_takesSign_2 rfl (lv_at hl 1 rfl) ?_
  have ho_3 := hs.1; have hs := hs.2
  have hPc := hP.sub (ws' := lt_Md yI yC M i a) [0, 1, 2, 3, 4, 5, 6, 7, 8] rfl
  refine lt_cR (va_runV (As := [.int p0, .int p0]) (rest := []) ⟨hx, hb, hml, hown, hts⟩ (c_X8_sees l D yI yC yO M i a p0 p0 ho_3) (cwV 2 hts gX8_takesSign_X8_sees rfl rfl rfl (by decide +kernel) ⟨Nat.le_of_ble_eq_true rfl, Nat.le_of_ble_eq_true rfl⟩) (lt_pV hK0 hPc (va_recv hK hPc (ci := 8) (q0 := 0) rfl rfl)) rfl rfl hl.1 rfl (lv_room (Nat.le_of_ble_eq_true rfl)) dX8_takesSign_3 ⟨Nat.zero_le _, Nat.zero_le _⟩) (fun r_3 e_r_3 => ?_)
  have hs := hs r_3 e_r_3
  refine lv_istore_n (lv' := [(2, .int r_3), (0, .ref (M 0)), (1, .int p0)]) hx hb dX8_takesSign_6 rfl hl (by decide) rfl (fun ls hl => ?_)
  refine lv_aload_n hx hb dX8_takesSign_7 rfl (lv_at hl 1 rfl) ?_
  refine lv_dup hx hb dX8_takesSign_8 rfl ?_
  refine va_get (D := D) (ci := 8) (v := .int (i 3)) (C := RX8) (T := TX8) (N := 13) hx hb hts iw_X8_takesSign_8 hown hK hP 0 rfl rfl 10 (by decide) (hts (.fieldLink RX8 116 "LeafTurnerModel" "spot" "I") (by decide +kernel)) (fun _ h9 => h9) rfl dX8_takesSign_9 ?_
  refine lv_iload_n hx hb dX8_takesSign_12 rfl (lv_at hl 0 rfl) ?_
  refine lv_if_eq (tgt := 20) hx hb dX8_takesSign_13 (by decide) (fun c_13 => ?_) (fun c_13 => ?_)
  · have hs := hs.1 c_13
    refine lv_iconst (v := 0) hx hb dX8_takesSign_20 (by decide) ?_
    refine lv_iadd hx hb dX8_takesSign_21 ?_
    refine va_put (D := D) (ci := 8) (v := .int ((i 3) + 0)) (ty := .int) (C := RX8) (T := TX8) (N := 13) hx hb hts iw_X8_takesSign_8 tyX8 tyX8_ok nmX8 hown hK hP hD hS 0 rfl rfl 10 (by decide) (hts (.fieldLink RX8 116 "LeafTurnerModel" "spot" "I") (by decide +kernel)) (fun _ h9 => h9) rfl (by decide +kernel) rfl rfl (Nat.le_of_ble_eq_true rfl) dX8_takesSign_22 (fun H locs hP hD hS => ?_)
    have hP : va_P D vwCl (lt_Md yI yC M (upd i 3 ((i 3) + 0)) a) H := hP
    have hD : va_D A (lt_Md yI yC M (upd i 3 ((i 3) + 0)) a) := hD
    refine lv_iload_n hx hb dX8_takesSign_25 rfl (lv_at hl 0 rfl) ?_
    exact W.zret (v := r_3) hx hb hret (lt_zn (lt_sees01 e_r_3)) (fun t ht hW => ⟨⟨r_3, ((upd i 3 ((i 3) + 0))), rfl, (by subst e_r_3; exact (Eq.symm (Eq.trans (if_pos c_13) rfl))), by rw [ht]; exact hP, hD⟩, hS.F ht⟩) hS.2.2 dX8_takesSign_26
  · have hs := hs.2 c_13
    refine lv_iconst (v := 1) hx hb dX8_takesSign_16 (by decide) ?_
    refine lv_goto (tgt := 21) hx hb dX8_takesSign_17 (by decide) ?_
    refine lv_iadd hx hb dX8_takesSign_21 ?_
    refine va_put (D := D) (ci := 8) (v := .int ((i 3) + 1)) (ty := .int) (C := RX8) (T := TX8) (N := 13) hx hb hts iw_X8_takesSign_8 tyX8 tyX8_ok nmX8 hown hK hP hD hS 0 rfl rfl 10 (by decide) (hts (.fieldLink RX8 116 "LeafTurnerModel" "spot" "I") (by decide +kernel)) (fun _ h9 => h9) rfl (by decide +kernel) rfl rfl (Nat.le_of_ble_eq_true rfl) dX8_takesSign_22 (fun H locs hP hD hS => ?_)
    have hP : va_P D vwCl (lt_Md yI yC M (upd i 3 ((i 3) + 1)) a) H := hP
    have hD : va_D A (lt_Md yI yC M (upd i 3 ((i 3) + 1)) a) := hD
    refine lv_iload_n hx hb dX8_takesSign_25 rfl (lv_at hl 0 rfl) ?_
    exact W.zret (v := r_3) hx hb hret (lt_zn (lt_sees01 e_r_3)) (fun t ht hW => ⟨⟨r_3, ((upd i 3 ((i 3) + 1))), rfl, (by subst e_r_3; exact (Eq.symm (Eq.trans (if_neg c_13) rfl))), by rw [ht]; exact hP, hD⟩, hS.F ht⟩) hS.2.2 dX8_takesSign_26

def X8_isDigit (i : Nat → Int32) (a : Nat → Nat → Int32) (p0 : Int32) : Int32 × ((Nat → Int32) × (Nat → Nat → Int32)) :=
  let r_5 := X8_sees i a 49 57
  if r_5 = 0 then
    (0, (i, a))
  else
    (1, ((upd i 3 ((i 3) + 1)), (va_up a 7 (upd (a 7) ((3 * (i 4)) + p0).toNatClampNeg (((a 4) (i 3).toNatClampNeg) - 48)))))
def S_X8_isDigit (i : Nat → Int32) (a : Nat → Nat → Int32) (p0 : Int32) : Prop :=
  (S_X8_sees i a 49 57) ∧
  ∀ r_5, r_5 = X8_sees i a 49 57 →
  (r_5 = 0 →
    True) ∧
  (¬ (r_5 = 0) →
    (vp_in (i 3) 60) ∧
    (vp_in ((3 * (i 4)) + p0) 93) ∧
    True)
theorem iw_X8_isDigit_8 : ∀ w ∈ wsX80, w ∈ wsX8_isDigit := by decide +kernel
set_option maxHeartbeats 4000000 in
set_option maxRecDepth 100000 in
theorem c_X8_isDigit (l : Launch) (D : va_G) (yI yC yO : ClassId) (M : Nat → Nat) (i : Nat → Int32) (a : Nat → Nat → Int32) (p0 : Int32) (sz : Nat) (hs : S_X8_isDigit i a p0) : Met l yX8_isDigit wsX8_isDigit ({ frames := 2, cells := 0, slots := 0, locals := 60 }) (va_Pc [.ref (M 0), .int p0] (lt_M D yI yC yO (lt_Md yI yC M i a) sz)) (lt_Qi D (X8_isDigit i a p0) (fun u => lt_Md yI yC M u.1 u.2) (va_A (lt_Md yI yC M i a) sz)) 0 0 (va_A (lt_Md yI yC M i a) sz) := by
  refine Met.ofW (cc := cX8_isDigit) (maxL := 2) (ret := (some .boolean)) (by decide) rfl ?_
  intro p e s m args below meth c s₁ B0 hml hv
  obtain ⟨rfl, hsz, hP, hK0, hD0⟩ := hv
  have hx := B0.exec
  have hb := B0.bytes
  have hret := B0.returns
  have hts := atoms_spec (ws := wsX8_isDigit) B0.pre
  have hown : s.vm.findClass RX8 = some m.cls := findClass_of_methodNamed B0.named
  have hlocks := B0.notSynchronized
  have hK := hK0.1
  have hN := hK0.2
  subst hsz
  have hD := hD0.self (sz := s.heap.size)
  generalize hAe : va_A (lt_Md yI yC M i a) s.heap.size = A at hD ⊢
  have hA : ∀ q : Nat, s.heap.size ≤ q → A q := fun q h => by rw [← hAe]; exact Or.inr h
  have hS : va_S A s.heap s.heap [] := va_S.rf
  have hP : va_P D vwCl (lt_Md yI yC M i a) s.heap := hP
  have hD : va_D A (lt_Md yI yC M i a) := hD
  have hl := lv_entry ([.ref (M 0), .int p0]) (n := 2) (Nat.le_of_ble_eq_true rfl)
  rw [lg_entry_eq]
  generalize (lg_sl ([.ref (M 0), .int p0]) ++ List.replicate (2 - (lg_sl ([.ref (M 0), .int p0])).length) Slot.unset).toArray = ls at hl ⊢
  have hl : lv_has ls 2 [(0, .ref (M 0)), (1, .int p0)] := hl
  refine lv_aload_n hx hb dX8_isDigit_0 rfl (lv_at hl 0 rfl) ?_
  refine lv_bipush (v := 49) hx hb dX8_isDigit_1 (by decide) ?_
  refine lv_bipush (v := 57) hx hb dX8_isDigit_3 (by decide) ?_
  have ho_5 := hs.1; have hs := hs.2
  have hPc := hP.sub (ws' := lt_Md yI yC M i a) [0, 1, 2, 3, 4, 5, 6, 7, 8] rfl
  refine lt_cR (va_runV (As := [.int 49, .int 57]) (rest := []) ⟨hx, hb, hml, hown, hts⟩ (c_X8_sees l D yI yC yO M i a 49 57 ho_5) (cwV 2 hts gX8_isDigit_X8_sees rfl rfl rfl (by decide +kernel) ⟨Nat.le_of_ble_eq_true rfl, Nat.le_of_ble_eq_true rfl⟩) (lt_pV hK0 hPc (va_recv hK hPc (ci := 8) (q0 := 0) rfl rfl)) rfl rfl hl.1 rfl (lv_room (Nat.le_of_ble_eq_true rfl)) dX8_isDigit_5 ⟨Nat.zero_le _, Nat.zero_le _⟩) (fun r_5 e_r_5 => ?_)
  have hs := hs r_5 e_r_5
  refine lv_if_ne (tgt := 13) hx hb dX8_isDigit_8 (by decide) (fun c_8 => ?_) (fun c_8 => ?_)
  · have hs := hs.2 c_8
    refine lv_aload_n hx hb dX8_isDigit_13 rfl (lv_at hl 0 rfl) ?_
    refine va_get (D := D) (ci := 8) (v := .ref (M 8)) (C := RX8) (T := TX8) (N := 13) hx hb hts iw_X8_isDigit_8 hown hK hP 0 rfl rfl 11 (by decide) (hts (.fieldLink RX8 32 "LeafTurnerModel" "told" "[I") (by decide +kernel)) (fun _ h9 => h9) rfl dX8_isDigit_14 ?_
    refine lv_iconst (v := 3) hx hb dX8_isDigit_17 (by decide) ?_
    refine lv_aload_n hx hb dX8_isDigit_18 rfl (lv_at hl 0 rfl) ?_
    refine va_get (D := D) (ci := 8) (v := .int (i 4)) (C := RX8) (T := TX8) (N := 13) hx hb hts iw_X8_isDigit_8 hown hK hP 0 rfl rfl 12 (by decide) (hts (.fieldLink RX8 54 "LeafTurnerModel" "toldMany" "I") (by decide +kernel)) (fun _ h9 => h9) rfl dX8_isDigit_19 ?_
    refine lv_imul hx hb dX8_isDigit_22 ?_
    refine lv_iload_n hx hb dX8_isDigit_23 rfl (lv_at hl 1 rfl) ?_
    refine lv_iadd hx hb dX8_isDigit_24 ?_
    refine lv_aload_n hx hb dX8_isDigit_25 rfl (lv_at hl 0 rfl) ?_
    refine va_get (D := D) (ci := 8) (v := .ref (M 5)) (C := RX8) (T := TX8) (N := 13) hx hb hts iw_X8_isDigit_8 hown hK hP 0 rfl rfl 6 (by decide) (hts (.fieldLink RX8 22 "LeafTurnerModel" "text" "[C") (by decide +kernel)) (fun _ h9 => h9) rfl dX8_isDigit_26 ?_
    refine lv_aload_n hx hb dX8_isDigit_29 rfl (lv_at hl 0 rfl) ?_
    refine va_get (D := D) (ci := 8) (v := .int (i 3)) (C := RX8) (T := TX8) (N := 13) hx hb hts iw_X8_isDigit_8 hown hK hP 0 rfl rfl 10 (by decide) (hts (.fieldLink RX8 116 "LeafTurnerModel" "spot" "I") (by decide +kernel)) (fun _ h9 => h9) rfl dX8_isDigit_30 ?_
    have ho_33 := hs.1; have hs := hs.2
    refine va_cald hx hb hK hP 5 1 rfl rfl (i := (i 3)) (ho_33) dX8_isDigit_33 ?_
    refine lv_bipush (v := 48) hx hb dX8_isDigit_34 (by decide) ?_
    refine lv_isub hx hb dX8_isDigit_36 ?_
    have ho_37 := hs.1; have hs := hs.2
    refine va_iast hx hb hK hP hD hS 8 0 rfl rfl (i := ((3 * (i 4)) + p0)) (x := (((a 4) (i 3).toNatClampNeg) - 48)) (ho_37) dX8_isDigit_37 (fun H locs hP hD hS => ?_)
    have hP : va_P D vwCl (lt_Md yI yC M i (va_up a 7 (upd (a 7) ((3 * (i 4)) + p0).toNatClampNeg (((a 4) (i 3).toNatClampNeg) - 48)))) H := hP
    have hD : va_D A (lt_Md yI yC M i (va_up a 7 (upd (a 7) ((3 * (i 4)) + p0).toNatClampNeg (((a 4) (i 3).toNatClampNeg) - 48)))) := hD
    refine lv_aload_n hx hb dX8_isDigit_38 rfl (lv_at hl 0 rfl) ?_
    refine lv_dup hx hb dX8_isDigit_39 rfl ?_
    refine va_get (D := D) (ci := 8) (v := .int (i 3)) (C := RX8) (T := TX8) (N := 13) hx hb hts iw_X8_isDigit_8 hown hK hP 0 rfl rfl 10 (by decide) (hts (.fieldLink RX8 116 "LeafTurnerModel" "spot" "I") (by decide +kernel)) (fun _ h9 => h9) rfl dX8_isDigit_40 ?_
    refine lv_iconst (v := 1) hx hb dX8_isDigit_43 (by decide) ?_
    refine lv_iadd hx hb dX8_isDigit_44 ?_
    refine va_put (D := D) (ci := 8) (v := .int ((i 3) + 1)) (ty := .int) (C := RX8) (T := TX8) (N := 13) hx hb hts iw_X8_isDigit_8 tyX8 tyX8_ok nmX8 hown hK hP hD hS 0 rfl rfl 10 (by decide) (hts (.fieldLink RX8 116 "LeafTurnerModel" "spot" "I") (by decide +kernel)) (fun _ h9 => h9) rfl (by decide +kernel) rfl rfl (Nat.le_of_ble_eq_true rfl) dX8_isDigit_45 (fun H locs hP hD hS => ?_)
    have hP : va_P D vwCl (lt_Md yI yC M (upd i 3 ((i 3) + 1)) (va_up a 7 (upd (a 7) ((3 * (i 4)) + p0).toNatClampNeg (((a 4) (i 3).toNatClampNeg) - 48)))) H := hP
    have hD : va_D A (lt_Md yI yC M (upd i 3 ((i 3) + 1)) (va_up a 7 (upd (a 7) ((3 * (i 4)) + p0).toNatClampNeg (((a 4) (i 3).toNatClampNeg) - 48)))) := hD
    refine lv_iconst (v := 1) hx hb dX8_isDigit_48 (by decide) ?_
    exact W.zret (v := 1) hx hb hret lt_z1 (fun t ht hW => ⟨⟨1, ((upd i 3 ((i 3) + 1)), (va_up a 7 (upd (a 7) ((3 * (i 4)) + p0).toNatClampNeg (((a 4) (i 3).toNatClampNeg) - 48)))), rfl, (by subst e_r_5; exact (Eq.symm (Eq.trans (if_neg c_8) rfl))), by rw [ht]; exact hP, hD⟩, hS.F ht⟩) hS.2.2 dX8_isDigit_49
  · have hs := hs.1 c_8
    refine lv_iconst (v := 0) hx hb dX8_isDigit_11 (by decide) ?_
    exact W.zret (v := 0) hx hb hret lt_z0 (fun t ht hW => ⟨⟨0, (i, a), rfl, (by subst e_r_5; exact (Eq.symm (Eq.trans (if_pos c_8) rfl))), by rw [ht]; exact hP, hD⟩, hS.F ht⟩) hS.2.2 dX8_isDigit_12

def X8_isLeafTold (i : Nat → Int32) (a : Nat → Nat → Int32) : Int32 × ((Nat → Int32) × (Nat → Nat → Int32)) :=
  let x_16 := X8_isDigit i (va_up a 7 (upd (a 7) ((3 * (i 4)) + 1).toNatClampNeg 0)) 0
  if x_16.1 = 0 then
    (0, (x_16.2.1, x_16.2.2))
  else
    let x_25 := X8_takesSign x_16.2.1 x_16.2.2 115
    if x_25.1 = 0 then
      let x_56 := X8_takesSign x_25.2 x_16.2.2 42
      if x_56.1 = 0 then
        let x_70 := X8_takesSign x_56.2 x_16.2.2 33
        if x_70.1 = 0 then
          (1, (x_70.2, (va_up x_16.2.2 7 (upd (x_16.2.2 7) ((3 * (x_25.2 4)) + 2).toNatClampNeg 1))))
        else
          (1, (x_70.2, (va_up x_16.2.2 7 (upd (x_16.2.2 7) ((3 * (x_25.2 4)) + 2).toNatClampNeg 3))))
      else
        (1, (x_56.2, (va_up x_16.2.2 7 (upd (x_16.2.2 7) ((3 * (x_25.2 4)) + 2).toNatClampNeg (-5)))))
    else
      let x_33 := X8_isDigit x_25.2 x_16.2.2 1
      if x_33.1 = 0 then
        (0, (x_33.2.1, x_33.2.2))
      else
        let x_56 := X8_takesSign x_33.2.1 x_33.2.2 42
        if x_56.1 = 0 then
          let x_70 := X8_takesSign x_56.2 x_33.2.2 33
          if x_70.1 = 0 then
            (1, (x_70.2, (va_up x_33.2.2 7 (upd (x_33.2.2 7) ((3 * (x_33.2.1 4)) + 2).toNatClampNeg 1))))
          else
            (1, (x_70.2, (va_up x_33.2.2 7 (upd (x_33.2.2 7) ((3 * (x_33.2.1 4)) + 2).toNatClampNeg 3))))
        else
          (1, (x_56.2, (va_up x_33.2.2 7 (upd (x_33.2.2 7) ((3 * (x_33.2.1 4)) + 2).toNatClampNeg (-5)))))
def S_X8_isLeafTold (i : Nat → Int32) (a : Nat → Nat → Int32) : Prop :=
  (vp_in ((3 * (i 4)) + 1) 93) ∧
  (S_X8_isDigit i (va_up a 7 (upd (a 7) ((3 * (i 4)) + 1).toNatClampNeg 0)) 0) ∧
  ∀ x_16, x_16 = X8_isDigit i (va_up a 7 (upd (a 7) ((3 * (i 4)) + 1).toNatClampNeg 0)) 0 →
  (x_16.1 = 0 →
    True) ∧
  (¬ (x_16.1 = 0) →
    (S_X8_takesSign x_16.2.1 x_16.2.2 115) ∧
    ∀ x_25, x_25 = X8_takesSign x_16.2.1 x_16.2.2 115 →
    (x_25.1 = 0 →
      (S_X8_takesSign x_25.2 x_16.2.2 42) ∧
      ∀ x_56, x_56 = X8_takesSign x_25.2 x_16.2.2 42 →
      (x_56.1 = 0 →
        (S_X8_takesSign x_56.2 x_16.2.2 33) ∧
        ∀ x_70, x_70 = X8_takesSign x_56.2 x_16.2.2 33 →
        (x_70.1 = 0 →
          (vp_in ((3 * (x_25.2 4)) + 2) 93) ∧
          True) ∧
        (¬ (x_70.1 = 0) →
          (vp_in ((3 * (x_25.2 4)) + 2) 93) ∧
          True)) ∧
      (¬ (x_56.1 = 0) →
        (vp_in ((3 * (x_25.2 4)) + 2) 93) ∧
        True)) ∧
    (¬ (x_25.1 = 0) →
      (S_X8_isDigit x_25.2 x_16.2.2 1) ∧
      ∀ x_33, x_33 = X8_isDigit x_25.2 x_16.2.2 1 →
      (x_33.1 = 0 →
        True) ∧
      (¬ (x_33.1 = 0) →
        (S_X8_takesSign x_33.2.1 x_33.2.2 42) ∧
        ∀ x_56, x_56 = X8_takesSign x_33.2.1 x_33.2.2 42 →
        (x_56.1 = 0 →
          (S_X8_takesSign x_56.2 x_33.2.2 33) ∧
          ∀ x_70, x_70 = X8_takesSign x_56.2 x_33.2.2 33 →
          (x_70.1 = 0 →
            (vp_in ((3 * (x_33.2.1 4)) + 2) 93) ∧
            True) ∧
          (¬ (x_70.1 = 0) →
            (vp_in ((3 * (x_33.2.1 4)) + 2) 93) ∧
            True)) ∧
        (¬ (x_56.1 = 0) →
          (vp_in ((3 * (x_33.2.1 4)) + 2) 93) ∧
          True))))
theorem iw_X8_isLeafTold_8 : ∀ w ∈ wsX80, w ∈ wsX8_isLeafTold := by decide +kernel
set_option maxHeartbeats 4000000 in
set_option maxRecDepth 100000 in
theorem c_X8_isLeafTold (l : Launch) (D : va_G) (yI yC yO : ClassId) (M : Nat → Nat) (i : Nat → Int32) (a : Nat → Nat → Int32) (sz : Nat) (hs : S_X8_isLeafTold i a) : Met l yX8_isLeafTold wsX8_isLeafTold ({ frames := 3, cells := 0, slots := 0, locals := 90 }) (va_Pc [.ref (M 0)] (lt_M D yI yC yO (lt_Md yI yC M i a) sz)) (lt_Qi D (X8_isLeafTold i a) (fun u => lt_Md yI yC M u.1 u.2) (va_A (lt_Md yI yC M i a) sz)) 0 0 (va_A (lt_Md yI yC M i a) sz) := by
  refine Met.ofW (cc := cX8_isLeafTold) (maxL := 1) (ret := (some .boolean)) (by decide) rfl ?_
  intro p e s m args below meth c s₁ B0 hml hv
  obtain ⟨rfl, hsz, hP, hK0, hD0⟩ := hv
  have hx := B0.exec
  have hb := B0.bytes
  have hret := B0.returns
  have hts := atoms_spec (ws := wsX8_isLeafTold) B0.pre
  have hown : s.vm.findClass RX8 = some m.cls := findClass_of_methodNamed B0.named
  have hlocks := B0.notSynchronized
  have hK := hK0.1
  have hN := hK0.2
  subst hsz
  have hD := hD0.self (sz := s.heap.size)
  generalize hAe : va_A (lt_Md yI yC M i a) s.heap.size = A at hD ⊢
  have hA : ∀ q : Nat, s.heap.size ≤ q → A q := fun q h => by rw [← hAe]; exact Or.inr h
  have hS : va_S A s.heap s.heap [] := va_S.rf
  have hP : va_P D vwCl (lt_Md yI yC M i a) s.heap := hP
  have hD : va_D A (lt_Md yI yC M i a) := hD
  have hl := lv_entry ([.ref (M 0)]) (n := 1) (Nat.le_of_ble_eq_true rfl)
  rw [lg_entry_eq]
  generalize (lg_sl ([.ref (M 0)]) ++ List.replicate (1 - (lg_sl ([.ref (M 0)])).length) Slot.unset).toArray = ls at hl ⊢
  have hl : lv_has ls 1 [(0, .ref (M 0))] := hl
  refine lv_aload_n hx hb dX8_isLeafTold_0 rfl (lv_at hl 0 rfl) ?_
  refine va_get (D := D) (ci := 8) (v := .ref (M 8)) (C := RX8) (T := TX8) (N := 13) hx hb hts iw_X8_isLeafTold_8 hown hK hP 0 rfl rfl 11 (by decide) (hts (.fieldLink RX8 32 "LeafTurnerModel" "told" "[I") (by decide +kernel)) (fun _ h9 => h9) rfl dX8_isLeafTold_1 ?_
  refine lv_iconst (v := 3) hx hb dX8_isLeafTold_4 (by decide) ?_
  refine lv_aload_n hx hb dX8_isLeafTold_5 rfl (lv_at hl 0 rfl) ?_
  refine va_get (D := D) (ci := 8) (v := .int (i 4)) (C := RX8) (T := TX8) (N := 13) hx hb hts iw_X8_isLeafTold_8 hown hK hP 0 rfl rfl 12 (by decide) (hts (.fieldLink RX8 54 "LeafTurnerModel" "toldMany" "I") (by decide +kernel)) (fun _ h9 => h9) rfl dX8_isLeafTold_6 ?_
  refine lv_imul hx hb dX8_isLeafTold_9 ?_
  refine lv_iconst (v := 1) hx hb dX8_isLeafTold_10 (by decide) ?_
  refine lv_iadd hx hb dX8_isLeafTold_11 ?_
  refine lv_iconst (v := 0) hx hb dX8_isLeafTold_12 (by decide) ?_
  have ho_13 := hs.1; have hs := hs.2
  refine va_iast hx hb hK hP hD hS 8 0 rfl rfl (i := ((3 * (i 4)) + 1)) (x := 0) (ho_13) dX8_isLeafTold_13 (fun H locs hP hD hS => ?_)
  have hP : va_P D vwCl (lt_Md yI yC M i (va_up a 7 (upd (a 7) ((3 * (i 4)) + 1).toNatClampNeg 0))) H := hP
  have hD : va_D A (lt_Md yI yC M i (va_up a 7 (upd (a 7) ((3 * (i 4)) + 1).toNatClampNeg 0))) := hD
  refine lv_aload_n hx hb dX8_isLeafTold_14 rfl (lv_at hl 0 rfl) ?_
  refine lv_iconst (v := 0) hx hb dX8_isLeafTold_15 (by decide) ?_
  have ho_16 := hs.1; have hs := hs.2
  have hPc := hP.sub (ws' := lt_Md yI yC M i (va_up a 7 (upd (a 7) ((3 * (i 4)) + 1).toNatClampNeg 0))) [0, 1, 2, 3, 4, 5, 6, 7, 8] rfl
  have hDc := hD.sub (ws' := lt_Md yI yC M i (va_up a 7 (upd (a 7) ((3 * (i 4)) + 1).toNatClampNeg 0))) [0, 1, 2, 3, 4, 5, 6, 7, 8] (by decide) rfl
  refine lt_cWi (wc := lt_Md yI yC M i (va_up a 7 (upd (a 7) ((3 * (i 4)) + 1).toNatClampNeg 0))) (wr := []) (va_runV (As := [.int 0]) (rest := []) ⟨hx, hb, hml, hown, hts⟩ (c_X8_isDigit l D yI yC yO M i (va_up a 7 (upd (a 7) ((3 * (i 4)) + 1).toNatClampNeg 0)) 0 _ ho_16) (cwV 1 hts gX8_isLeafTold_X8_isDigit rfl rfl rfl (by decide +kernel) ⟨Nat.le_of_ble_eq_true rfl, Nat.le_of_ble_eq_true rfl⟩) (lt_qV hK0 hPc hDc (va_recv hK hPc (ci := 8) (q0 := 0) rfl rfl)) rfl rfl hl.1 rfl (lv_room (Nat.le_of_ble_eq_true rfl)) dX8_isLeafTold_16 ⟨Nat.zero_le _, Nat.zero_le _⟩) hP hD hS hA [0, 1, 2, 3, 4, 5, 6, 7, 8] [] rfl rfl (by decide) (by decide) (fun x_16 e_x_16 H locs hP hD hS => ?_)
  have hP := hP.sub (ws' := lt_Md yI yC M x_16.2.1 x_16.2.2) [0, 1, 2, 3, 4, 5, 6, 7, 8] rfl
  have hD := hD.sub (ws' := lt_Md yI yC M x_16.2.1 x_16.2.2) [0, 1, 2, 3, 4, 5, 6, 7, 8] (by decide) rfl
  have hs := hs x_16 e_x_16
  refine lv_if_eq (tgt := 39) hx hb dX8_isLeafTold_19 (by decide) (fun c_19 => ?_) (fun c_19 => ?_)
  · have hs := hs.1 c_19
    refine lv_iconst (v := 0) hx hb dX8_isLeafTold_39 (by decide) ?_
    exact W.zret (v := 0) hx hb hret lt_z0 (fun t ht hW => ⟨⟨0, (x_16.2.1, x_16.2.2), rfl, (by subst e_x_16; exact (Eq.symm (Eq.trans (if_pos c_19) rfl))), by rw [ht]; exact hP, hD⟩, hS.F ht⟩) hS.2.2 dX8_isLeafTold_40
  · have hs := hs.2 c_19
    refine lv_aload_n hx hb dX8_isLeafTold_22 rfl (lv_at hl 0 rfl) ?_
    refine lv_bipush (v := 115) hx hb dX8_isLeafTold_23 (by decide) ?_
    have ho_25 := hs.1; have hs := hs.2
    have hPc := hP.sub (ws' := lt_Md yI yC M x_16.2.1 x_16.2.2) [0, 1, 2, 3, 4, 5, 6, 7, 8] rfl
    have hDc := hD.sub (ws' := lt_Md yI yC M x_16.2.1 x_16.2.2) [0, 1, 2, 3, 4, 5, 6, 7, 8] (by decide) rfl
    refine lt_cWi (wc := lt_Md yI yC M x_16.2.1 x_16.2.2) (wr := []) (va_runV (As := [.int 115]) (rest := []) ⟨hx, hb, hml, hown, hts⟩ (c_X8_takesSign l D yI yC yO M x_16.2.1 x_16.2.2 115 _ ho_25) (cwV 1 hts gX8_isLeafTold_X8_takesSign rfl rfl rfl (by decide +kernel) ⟨Nat.le_of_ble_eq_true rfl, Nat.le_of_ble_eq_true rfl⟩) (lt_qV hK0 hPc hDc (va_recv hK hPc (ci := 8) (q0 := 0) rfl rfl)) rfl rfl hl.1 rfl (lv_room (Nat.le_of_ble_eq_true rfl)) dX8_isLeafTold_25 ⟨Nat.zero_le _, Nat.zero_le _⟩) hP hD hS hA [0, 1, 2, 3, 4, 5, 6, 7, 8] [] rfl rfl (by decide) (by decide) (fun x_25 e_x_25 H locs hP hD hS => ?_)
    have hP := hP.sub (ws' := lt_Md yI yC M x_25.2 x_16.2.2) [0, 1, 2, 3, 4, 5, 6, 7, 8] rfl
    have hD := hD.sub (ws' := lt_Md yI yC M x_25.2 x_16.2.2) [0, 1, 2, 3, 4, 5, 6, 7, 8] (by decide) rfl
    have hs := hs x_25 e_x_25
    refine lv_if_eq (tgt := 41) hx hb dX8_isLeafTold_28 (by decide) (fun c_28 => ?_) (fun c_28 => ?_)
    · have hs := hs.1 c_28
      refine lv_aload_n hx hb dX8_isLeafTold_41 rfl (lv_at hl 0 rfl) ?_
      refine va_get (D := D) (ci := 8) (v := .ref (M 8)) (C := RX8) (T := TX8) (N := 13) hx hb hts iw_X8_isLeafTold_8 hown hK hP 0 rfl rfl 11 (by decide) (hts (.fieldLink RX8 32 "LeafTurnerModel" "told" "[I") (by decide +kernel)) (fun _ h9 => h9) rfl dX8_isLeafTold_42 ?_
      refine lv_iconst (v := 3) hx hb dX8_isLeafTold_45 (by decide) ?_
      refine lv_aload_n hx hb dX8_isLeafTold_46 rfl (lv_at hl 0 rfl) ?_
      refine va_get (D := D) (ci := 8) (v := .int (x_25.2 4)) (C := RX8) (T := TX8) (N := 13) hx hb hts iw_X8_isLeafTold_8 hown hK hP 0 rfl rfl 12 (by decide) (hts (.fieldLink RX8 54 "LeafTurnerModel" "toldMany" "I") (by decide +kernel)) (fun _ h9 => h9) rfl dX8_isLeafTold_47 ?_
      refine lv_imul hx hb dX8_isLeafTold_50 ?_
      refine lv_iconst (v := 2) hx hb dX8_isLeafTold_51 (by decide) ?_
      refine lv_iadd hx hb dX8_isLeafTold_52 ?_
      refine lv_aload_n hx hb dX8_isLeafTold_53 rfl (lv_at hl 0 rfl) ?_
      refine lv_bipush (v := 42) hx hb dX8_isLeafTold_54 (by decide) ?_
      have ho_56 := hs.1; have hs := hs.2
      have hPc := hP.sub (ws' := lt_Md yI yC M x_25.2 x_16.2.2) [0, 1, 2, 3, 4, 5, 6, 7, 8] rfl
      have hDc := hD.sub (ws' := lt_Md yI yC M x_25.2 x_16.2.2) [0, 1, 2, 3, 4, 5, 6, 7, 8] (by decide) rfl
      refine lt_cWi (wc := lt_Md yI yC M x_25.2 x_16.2.2) (wr := []) (va_runV (As := [.int 42]) (rest := [.int ((3 * (x_25.2 4)) + 2), .ref (M 8)]) ⟨hx, hb, hml, hown, hts⟩ (c_X8_takesSign l D yI yC yO M x_25.2 x_16.2.2 42 _ ho_56) (cwV 1 hts gX8_isLeafTold_X8_takesSign rfl rfl rfl (by decide +kernel) ⟨Nat.le_of_ble_eq_true rfl, Nat.le_of_ble_eq_true rfl⟩) (lt_qV hK0 hPc hDc (va_recv hK hPc (ci := 8) (q0 := 0) rfl rfl)) rfl rfl hl.1 rfl (lv_room (Nat.le_of_ble_eq_true rfl)) dX8_isLeafTold_56 ⟨Nat.zero_le _, Nat.zero_le _⟩) hP hD hS hA [0, 1, 2, 3, 4, 5, 6, 7, 8] [] rfl rfl (by decide) (by decide) (fun x_56 e_x_56 H locs hP hD hS => ?_)
      have hP := hP.sub (ws' := lt_Md yI yC M x_56.2 x_16.2.2) [0, 1, 2, 3, 4, 5, 6, 7, 8] rfl
      have hD := hD.sub (ws' := lt_Md yI yC M x_56.2 x_16.2.2) [0, 1, 2, 3, 4, 5, 6, 7, 8] (by decide) rfl
      have hs := hs x_56 e_x_56
      refine lv_if_eq (tgt := 67) hx hb dX8_isLeafTold_59 (by decide) (fun c_59 => ?_) (fun c_59 => ?_)
      · have hs := hs.1 c_59
        refine lv_aload_n hx hb dX8_isLeafTold_67 rfl (lv_at hl 0 rfl) ?_
        refine lv_bipush (v := 33) hx hb dX8_isLeafTold_68 (by decide) ?_
        have ho_70 := hs.1; have hs := hs.2
        have hPc := hP.sub (ws' := lt_Md yI yC M x_56.2 x_16.2.2) [0, 1, 2, 3, 4, 5, 6, 7, 8] rfl
        have hDc := hD.sub (ws' := lt_Md yI yC M x_56.2 x_16.2.2) [0, 1, 2, 3, 4, 5, 6, 7, 8] (by decide) rfl
        refine lt_cWi (wc := lt_Md yI yC M x_56.2 x_16.2.2) (wr := []) (va_runV (As := [.int 33]) (rest := [.int ((3 * (x_25.2 4)) + 2), .ref (M 8)]) ⟨hx, hb, hml, hown, hts⟩ (c_X8_takesSign l D yI yC yO M x_56.2 x_16.2.2 33 _ ho_70) (cwV 1 hts gX8_isLeafTold_X8_takesSign rfl rfl rfl (by decide +kernel) ⟨Nat.le_of_ble_eq_true rfl, Nat.le_of_ble_eq_true rfl⟩) (lt_qV hK0 hPc hDc (va_recv hK hPc (ci := 8) (q0 := 0) rfl rfl)) rfl rfl hl.1 rfl (lv_room (Nat.le_of_ble_eq_true rfl)) dX8_isLeafTold_70 ⟨Nat.zero_le _, Nat.zero_le _⟩) hP hD hS hA [0, 1, 2, 3, 4, 5, 6, 7, 8] [] rfl rfl (by decide) (by decide) (fun x_70 e_x_70 H locs hP hD hS => ?_)
        have hP := hP.sub (ws' := lt_Md yI yC M x_70.2 x_16.2.2) [0, 1, 2, 3, 4, 5, 6, 7, 8] rfl
        have hD := hD.sub (ws' := lt_Md yI yC M x_70.2 x_16.2.2) [0, 1, 2, 3, 4, 5, 6, 7, 8] (by decide) rfl
        have hs := hs x_70 e_x_70
        refine lv_if_eq (tgt := 80) hx hb dX8_isLeafTold_73 (by decide) (fun c_73 => ?_) (fun c_73 => ?_)
        · have hs := hs.1 c_73
          refine lv_iconst (v := 1) hx hb dX8_isLeafTold_80 (by decide) ?_
          have ho_81 := hs.1; have hs := hs.2
          refine va_iast hx hb hK hP hD hS 8 0 rfl rfl (i := ((3 * (x_25.2 4)) + 2)) (x := 1) (ho_81) dX8_isLeafTold_81 (fun H locs hP hD hS => ?_)
          have hP : va_P D vwCl (lt_Md yI yC M x_70.2 (va_up x_16.2.2 7 (upd (x_16.2.2 7) ((3 * (x_25.2 4)) + 2).toNatClampNeg 1))) H := hP
          have hD : va_D A (lt_Md yI yC M x_70.2 (va_up x_16.2.2 7 (upd (x_16.2.2 7) ((3 * (x_25.2 4)) + 2).toNatClampNeg 1))) := hD
          refine lv_iconst (v := 1) hx hb dX8_isLeafTold_82 (by decide) ?_
          exact W.zret (v := 1) hx hb hret lt_z1 (fun t ht hW => ⟨⟨1, (x_70.2, (va_up x_16.2.2 7 (upd (x_16.2.2 7) ((3 * (x_25.2 4)) + 2).toNatClampNeg 1))), rfl, (by subst e_x_70 e_x_56 e_x_25 e_x_16; exact (Eq.symm (Eq.trans (if_neg c_19) (Eq.trans (if_pos c_28) (Eq.trans (if_pos c_59) (Eq.trans (if_pos c_73) rfl)))))), by rw [ht]; exact hP, hD⟩, hS.F ht⟩) hS.2.2 dX8_isLeafTold_83
        · have hs := hs.2 c_73
          refine lv_iconst (v := 3) hx hb dX8_isLeafTold_76 (by decide) ?_
          refine lv_goto (tgt := 81) hx hb dX8_isLeafTold_77 (by decide) ?_
          have ho_81 := hs.1; have hs := hs.2
          refine va_iast hx hb hK hP hD hS 8 0 rfl rfl (i := ((3 * (x_25.2 4)) + 2)) (x := 3) (ho_81) dX8_isLeafTold_81 (fun H locs hP hD hS => ?_)
          have hP : va_P D vwCl (lt_Md yI yC M x_70.2 (va_up x_16.2.2 7 (upd (x_16.2.2 7) ((3 * (x_25.2 4)) + 2).toNatClampNeg 3))) H := hP
          have hD : va_D A (lt_Md yI yC M x_70.2 (va_up x_16.2.2 7 (upd (x_16.2.2 7) ((3 * (x_25.2 4)) + 2).toNatClampNeg 3))) := hD
          refine lv_iconst (v := 1) hx hb dX8_isLeafTold_82 (by decide) ?_
          exact W.zret (v := 1) hx hb hret lt_z1 (fun t ht hW => ⟨⟨1, (x_70.2, (va_up x_16.2.2 7 (upd (x_16.2.2 7) ((3 * (x_25.2 4)) + 2).toNatClampNeg 3))), rfl, (by subst e_x_70 e_x_56 e_x_25 e_x_16; exact (Eq.symm (Eq.trans (if_neg c_19) (Eq.trans (if_pos c_28) (Eq.trans (if_pos c_59) (Eq.trans (if_neg c_73) rfl)))))), by rw [ht]; exact hP, hD⟩, hS.F ht⟩) hS.2.2 dX8_isLeafTold_83
      · have hs := hs.2 c_59
        refine lv_bipush (v := (-5)) hx hb dX8_isLeafTold_62 (by decide) ?_
        refine lv_goto (tgt := 81) hx hb dX8_isLeafTold_64 (by decide) ?_
        have ho_81 := hs.1; have hs := hs.2
        refine va_iast hx hb hK hP hD hS 8 0 rfl rfl (i := ((3 * (x_25.2 4)) + 2)) (x := (-5)) (ho_81) dX8_isLeafTold_81 (fun H locs hP hD hS => ?_)
        have hP : va_P D vwCl (lt_Md yI yC M x_56.2 (va_up x_16.2.2 7 (upd (x_16.2.2 7) ((3 * (x_25.2 4)) + 2).toNatClampNeg (-5)))) H := hP
        have hD : va_D A (lt_Md yI yC M x_56.2 (va_up x_16.2.2 7 (upd (x_16.2.2 7) ((3 * (x_25.2 4)) + 2).toNatClampNeg (-5)))) := hD
        refine lv_iconst (v := 1) hx hb dX8_isLeafTold_82 (by decide) ?_
        exact W.zret (v := 1) hx hb hret lt_z1 (fun t ht hW => ⟨⟨1, (x_56.2, (va_up x_16.2.2 7 (upd (x_16.2.2 7) ((3 * (x_25.2 4)) + 2).toNatClampNeg (-5)))), rfl, (by subst e_x_56 e_x_25 e_x_16; exact (Eq.symm (Eq.trans (if_neg c_19) (Eq.trans (if_pos c_28) (Eq.trans (if_neg c_59) rfl))))), by rw [ht]; exact hP, hD⟩, hS.F ht⟩) hS.2.2 dX8_isLeafTold_83
    · have hs := hs.2 c_28
      refine lv_aload_n hx hb dX8_isLeafTold_31 rfl (lv_at hl 0 rfl) ?_
      refine lv_iconst (v := 1) hx hb dX8_isLeafTold_32 (by decide) ?_
      have ho_33 := hs.1; have hs := hs.2
      have hPc := hP.sub (ws' := lt_Md yI yC M x_25.2 x_16.2.2) [0, 1, 2, 3, 4, 5, 6, 7, 8] rfl
      have hDc := hD.sub (ws' := lt_Md yI yC M x_25.2 x_16.2.2) [0, 1, 2, 3, 4, 5, 6, 7, 8] (by decide) rfl
      refine lt_cWi (wc := lt_Md yI yC M x_25.2 x_16.2.2) (wr := []) (va_runV (As := [.int 1]) (rest := []) ⟨hx, hb, hml, hown, hts⟩ (c_X8_isDigit l D yI yC yO M x_25.2 x_16.2.2 1 _ ho_33) (cwV 1 hts gX8_isLeafTold_X8_isDigit rfl rfl rfl (by decide +kernel) ⟨Nat.le_of_ble_eq_true rfl, Nat.le_of_ble_eq_true rfl⟩) (lt_qV hK0 hPc hDc (va_recv hK hPc (ci := 8) (q0 := 0) rfl rfl)) rfl rfl hl.1 rfl (lv_room (Nat.le_of_ble_eq_true rfl)) dX8_isLeafTold_33 ⟨Nat.zero_le _, Nat.zero_le _⟩) hP hD hS hA [0, 1, 2, 3, 4, 5, 6, 7, 8] [] rfl rfl (by decide) (by decide) (fun x_33 e_x_33 H locs hP hD hS => ?_)
      have hP := hP.sub (ws' := lt_Md yI yC M x_33.2.1 x_33.2.2) [0, 1, 2, 3, 4, 5, 6, 7, 8] rfl
      have hD := hD.sub (ws' := lt_Md yI yC M x_33.2.1 x_33.2.2) [0, 1, 2, 3, 4, 5, 6, 7, 8] (by decide) rfl
      have hs := hs x_33 e_x_33
      refine lv_if_ne (tgt := 41) hx hb dX8_isLeafTold_36 (by decide) (fun c_36 => ?_) (fun c_36 => ?_)
      · have hs := hs.2 c_36
        refine lv_aload_n hx hb dX8_isLeafTold_41 rfl (lv_at hl 0 rfl) ?_
        refine va_get (D := D) (ci := 8) (v := .ref (M 8)) (C := RX8) (T := TX8) (N := 13) hx hb hts iw_X8_isLeafTold_8 hown hK hP 0 rfl rfl 11 (by decide) (hts (.fieldLink RX8 32 "LeafTurnerModel" "told" "[I") (by decide +kernel)) (fun _ h9 => h9) rfl dX8_isLeafTold_42 ?_
        refine lv_iconst (v := 3) hx hb dX8_isLeafTold_45 (by decide) ?_
        refine lv_aload_n hx hb dX8_isLeafTold_46 rfl (lv_at hl 0 rfl) ?_
        refine va_get (D := D) (ci := 8) (v := .int (x_33.2.1 4)) (C := RX8) (T := TX8) (N := 13) hx hb hts iw_X8_isLeafTold_8 hown hK hP 0 rfl rfl 12 (by decide) (hts (.fieldLink RX8 54 "LeafTurnerModel" "toldMany" "I") (by decide +kernel)) (fun _ h9 => h9) rfl dX8_isLeafTold_47 ?_
        refine lv_imul hx hb dX8_isLeafTold_50 ?_
        refine lv_iconst (v := 2) hx hb dX8_isLeafTold_51 (by decide) ?_
        refine lv_iadd hx hb dX8_isLeafTold_52 ?_
        refine lv_aload_n hx hb dX8_isLeafTold_53 rfl (lv_at hl 0 rfl) ?_
        refine lv_bipush (v := 42) hx hb dX8_isLeafTold_54 (by decide) ?_
        have ho_56 := hs.1; have hs := hs.2
        have hPc := hP.sub (ws' := lt_Md yI yC M x_33.2.1 x_33.2.2) [0, 1, 2, 3, 4, 5, 6, 7, 8] rfl
        have hDc := hD.sub (ws' := lt_Md yI yC M x_33.2.1 x_33.2.2) [0, 1, 2, 3, 4, 5, 6, 7, 8] (by decide) rfl
        refine lt_cWi (wc := lt_Md yI yC M x_33.2.1 x_33.2.2) (wr := []) (va_runV (As := [.int 42]) (rest := [.int ((3 * (x_33.2.1 4)) + 2), .ref (M 8)]) ⟨hx, hb, hml, hown, hts⟩ (c_X8_takesSign l D yI yC yO M x_33.2.1 x_33.2.2 42 _ ho_56) (cwV 1 hts gX8_isLeafTold_X8_takesSign rfl rfl rfl (by decide +kernel) ⟨Nat.le_of_ble_eq_true rfl, Nat.le_of_ble_eq_true rfl⟩) (lt_qV hK0 hPc hDc (va_recv hK hPc (ci := 8) (q0 := 0) rfl rfl)) rfl rfl hl.1 rfl (lv_room (Nat.le_of_ble_eq_true rfl)) dX8_isLeafTold_56 ⟨Nat.zero_le _, Nat.zero_le _⟩) hP hD hS hA [0, 1, 2, 3, 4, 5, 6, 7, 8] [] rfl rfl (by decide) (by decide) (fun x_56 e_x_56 H locs hP hD hS => ?_)
        have hP := hP.sub (ws' := lt_Md yI yC M x_56.2 x_33.2.2) [0, 1, 2, 3, 4, 5, 6, 7, 8] rfl
        have hD := hD.sub (ws' := lt_Md yI yC M x_56.2 x_33.2.2) [0, 1, 2, 3, 4, 5, 6, 7, 8] (by decide) rfl
        have hs := hs x_56 e_x_56
        refine lv_if_eq (tgt := 67) hx hb dX8_isLeafTold_59 (by decide) (fun c_59 => ?_) (fun c_59 => ?_)
        · have hs := hs.1 c_59
          refine lv_aload_n hx hb dX8_isLeafTold_67 rfl (lv_at hl 0 rfl) ?_
          refine lv_bipush (v := 33) hx hb dX8_isLeafTold_68 (by decide) ?_
          have ho_70 := hs.1; have hs := hs.2
          have hPc := hP.sub (ws' := lt_Md yI yC M x_56.2 x_33.2.2) [0, 1, 2, 3, 4, 5, 6, 7, 8] rfl
          have hDc := hD.sub (ws' := lt_Md yI yC M x_56.2 x_33.2.2) [0, 1, 2, 3, 4, 5, 6, 7, 8] (by decide) rfl
          refine lt_cWi (wc := lt_Md yI yC M x_56.2 x_33.2.2) (wr := []) (va_runV (As := [.int 33]) (rest := [.int ((3 * (x_33.2.1 4)) + 2), .ref (M 8)]) ⟨hx, hb, hml, hown, hts⟩ (c_X8_takesSign l D yI yC yO M x_56.2 x_33.2.2 33 _ ho_70) (cwV 1 hts gX8_isLeafTold_X8_takesSign rfl rfl rfl (by decide +kernel) ⟨Nat.le_of_ble_eq_true rfl, Nat.le_of_ble_eq_true rfl⟩) (lt_qV hK0 hPc hDc (va_recv hK hPc (ci := 8) (q0 := 0) rfl rfl)) rfl rfl hl.1 rfl (lv_room (Nat.le_of_ble_eq_true rfl)) dX8_isLeafTold_70 ⟨Nat.zero_le _, Nat.zero_le _⟩) hP hD hS hA [0, 1, 2, 3, 4, 5, 6, 7, 8] [] rfl rfl (by decide) (by decide) (fun x_70 e_x_70 H locs hP hD hS => ?_)
          have hP := hP.sub (ws' := lt_Md yI yC M x_70.2 x_33.2.2) [0, 1, 2, 3, 4, 5, 6, 7, 8] rfl
          have hD := hD.sub (ws' := lt_Md yI yC M x_70.2 x_33.2.2) [0, 1, 2, 3, 4, 5, 6, 7, 8] (by decide) rfl
          have hs := hs x_70 e_x_70
          refine lv_if_eq (tgt := 80) hx hb dX8_isLeafTold_73 (by decide) (fun c_73 => ?_) (fun c_73 => ?_)
          · have hs := hs.1 c_73
            refine lv_iconst (v := 1) hx hb dX8_isLeafTold_80 (by decide) ?_
            have ho_81 := hs.1; have hs := hs.2
            refine va_iast hx hb hK hP hD hS 8 0 rfl rfl (i := ((3 * (x_33.2.1 4)) + 2)) (x := 1) (ho_81) dX8_isLeafTold_81 (fun H locs hP hD hS => ?_)
            have hP : va_P D vwCl (lt_Md yI yC M x_70.2 (va_up x_33.2.2 7 (upd (x_33.2.2 7) ((3 * (x_33.2.1 4)) + 2).toNatClampNeg 1))) H := hP
            have hD : va_D A (lt_Md yI yC M x_70.2 (va_up x_33.2.2 7 (upd (x_33.2.2 7) ((3 * (x_33.2.1 4)) + 2).toNatClampNeg 1))) := hD
            refine lv_iconst (v := 1) hx hb dX8_isLeafTold_82 (by decide) ?_
            exact W.zret (v := 1) hx hb hret lt_z1 (fun t ht hW => ⟨⟨1, (x_70.2, (va_up x_33.2.2 7 (upd (x_33.2.2 7) ((3 * (x_33.2.1 4)) + 2).toNatClampNeg 1))), rfl, (by subst e_x_70 e_x_56 e_x_33 e_x_25 e_x_16; exact (Eq.symm (Eq.trans (if_neg c_19) (Eq.trans (if_neg c_28) (Eq.trans (if_neg c_36) (Eq.trans (if_pos c_59) (Eq.trans (if_pos c_73) rfl))))))), by rw [ht]; exact hP, hD⟩, hS.F ht⟩) hS.2.2 dX8_isLeafTold_83
          · have hs := hs.2 c_73
            refine lv_iconst (v := 3) hx hb dX8_isLeafTold_76 (by decide) ?_
            refine lv_goto (tgt := 81) hx hb dX8_isLeafTold_77 (by decide) ?_
            have ho_81 := hs.1; have hs := hs.2
            refine va_iast hx hb hK hP hD hS 8 0 rfl rfl (i := ((3 * (x_33.2.1 4)) + 2)) (x := 3) (ho_81) dX8_isLeafTold_81 (fun H locs hP hD hS => ?_)
            have hP : va_P D vwCl (lt_Md yI yC M x_70.2 (va_up x_33.2.2 7 (upd (x_33.2.2 7) ((3 * (x_33.2.1 4)) + 2).toNatClampNeg 3))) H := hP
            have hD : va_D A (lt_Md yI yC M x_70.2 (va_up x_33.2.2 7 (upd (x_33.2.2 7) ((3 * (x_33.2.1 4)) + 2).toNatClampNeg 3))) := hD
            refine lv_iconst (v := 1) hx hb dX8_isLeafTold_82 (by decide) ?_
            exact W.zret (v := 1) hx hb hret lt_z1 (fun t ht hW => ⟨⟨1, (x_70.2, (va_up x_33.2.2 7 (upd (x_33.2.2 7) ((3 * (x_33.2.1 4)) + 2).toNatClampNeg 3))), rfl, (by subst e_x_70 e_x_56 e_x_33 e_x_25 e_x_16; exact (Eq.symm (Eq.trans (if_neg c_19) (Eq.trans (if_neg c_28) (Eq.trans (if_neg c_36) (Eq.trans (if_pos c_59) (Eq.trans (if_neg c_73) rfl))))))), by rw [ht]; exact hP, hD⟩, hS.F ht⟩) hS.2.2 dX8_isLeafTold_83
        · have hs := hs.2 c_59
          refine lv_bipush (v := (-5)) hx hb dX8_isLeafTold_62 (by decide) ?_
          refine lv_goto (tgt := 81) hx hb dX8_isLeafTold_64 (by decide) ?_
          have ho_81 := hs.1; have hs := hs.2
          refine va_iast hx hb hK hP hD hS 8 0 rfl rfl (i := ((3 * (x_33.2.1 4)) + 2)) (x := (-5)) (ho_81) dX8_isLeafTold_81 (fun H locs hP hD hS => ?_)
          have hP : va_P D vwCl (lt_Md yI yC M x_56.2 (va_up x_33.2.2 7 (upd (x_33.2.2 7) ((3 * (x_33.2.1 4)) + 2).toNatClampNeg (-5)))) H := hP
          have hD : va_D A (lt_Md yI yC M x_56.2 (va_up x_33.2.2 7 (upd (x_33.2.2 7) ((3 * (x_33.2.1 4)) + 2).toNatClampNeg (-5)))) := hD
          refine lv_iconst (v := 1) hx hb dX8_isLeafTold_82 (by decide) ?_
          exact W.zret (v := 1) hx hb hret lt_z1 (fun t ht hW => ⟨⟨1, (x_56.2, (va_up x_33.2.2 7 (upd (x_33.2.2 7) ((3 * (x_33.2.1 4)) + 2).toNatClampNeg (-5)))), rfl, (by subst e_x_56 e_x_33 e_x_25 e_x_16; exact (Eq.symm (Eq.trans (if_neg c_19) (Eq.trans (if_neg c_28) (Eq.trans (if_neg c_36) (Eq.trans (if_neg c_59) rfl)))))), by rw [ht]; exact hP, hD⟩, hS.F ht⟩) hS.2.2 dX8_isLeafTold_83
      · have hs := hs.1 c_36
        refine lv_iconst (v := 0) hx hb dX8_isLeafTold_39 (by decide) ?_
        exact W.zret (v := 0) hx hb hret lt_z0 (fun t ht hW => ⟨⟨0, (x_33.2.1, x_33.2.2), rfl, (by subst e_x_33 e_x_25 e_x_16; exact (Eq.symm (Eq.trans (if_neg c_19) (Eq.trans (if_neg c_28) (Eq.trans (if_pos c_36) rfl))))), by rw [ht]; exact hP, hD⟩, hS.F ht⟩) hS.2.2 dX8_isLeafTold_40

theorem lt_ts4 {i : Nat → Int32} {a : Nat → Nat → Int32} {p0 : Int32} {j : Nat} (h : j ≠ 3) : (X8_takesSign i a p0).2 j = i j := by
  unfold X8_takesSign
  dsimp only
  split <;> exact pk_un h
theorem lt_id4 {i : Nat → Int32} {a : Nat → Nat → Int32} {p0 : Int32} {j : Nat} (h : j ≠ 3) : (X8_isDigit i a p0).2.1 j = i j := by
  unfold X8_isDigit
  dsimp only
  split
  · rfl
  · exact pk_un h
theorem lt_lt4 {i : Nat → Int32} {a : Nat → Nat → Int32} {j : Nat} (h : j ≠ 3) : (X8_isLeafTold i a).2.1 j = i j := by
  unfold X8_isLeafTold
  dsimp only
  repeat' split
  all_goals simp only [lt_id4 h, lt_ts4 h]

theorem lt_flt {v i4 j4 : Int32} {fu : Nat} (hI : (v = 0 ∨ v = 1) ∧ i4.toInt + v.toInt ≤ 30) (c : ¬ v = 0) (hF : lt_fu (fu + 1) 31 i4) (h : j4 = i4 + 1) : lt_fu fu 31 j4 ∧ True := by
  have h1 : v = 1 := hI.1.resolve_left c
  subst h1
  have h2 := hI.2
  have h3 : (1 : Int32).toInt = 1 := by decide
  have h4 : (31 : Int32).toInt = 31 := by decide
  subst h
  exact ⟨lt_fuS hF (Int32.lt_iff_toInt_lt.mpr (by omega)), trivial⟩
theorem lt_flt2 {v w i4 j4 : Int32} (hI : (v = 0 ∨ v = 1) ∧ i4.toInt + v.toInt ≤ 30) (c : ¬ v = 0) (h : j4 = i4 + 1) (hw : w = 0 ∨ (w = 1 ∧ ¬ 30 ≤ j4)) : (w = 0 ∨ w = 1) ∧ j4.toInt + w.toInt ≤ 30 := by
  have h1 : v = 1 := hI.1.resolve_left c
  subst h1
  have h2 := hI.2
  have h3 : (1 : Int32).toInt = 1 := by decide
  have h4 : (31 : Int32).toInt = 31 := by decide
  have h5 : (30 : Int32).toInt = 30 := by decide
  have h6 : (0 : Int32).toInt = 0 := by decide
  have h7 : j4.toInt = i4.toInt + 1 := by rw [h]; exact lt_add1 (b := 31) (Int32.lt_iff_toInt_lt.mpr (by omega))
  rcases hw with hw | ⟨hw, hq⟩
  · subst hw
    exact ⟨Or.inl rfl, by omega⟩
  · subst hw
    have h8 := Int32.lt_iff_toInt_lt.mp (lt_nle hq)
    exact ⟨Or.inr rfl, by omega⟩

def X8_fault_L12 (i : Nat → Int32) (a : Nat → Nat → Int32) : Nat → (Int32) → (Nat → Int32) → (Nat → Nat → Int32) → Int32 × ((Nat → Int32) × (Nat → Nat → Int32))
  | 0, _, _, _ => (0, (i, a))
  | fu + 1, v1, i0, a0 =>
    if v1 = 0 then
      if (i0 3) = (i0 2) then
        ((-5), (i0, a0))
      else
        ((i0 3), (i0, a0))
    else
      let x_17 := X8_isLeafTold i0 a0
      if x_17.1 = 0 then
        ((x_17.2.1 3), (x_17.2.1, x_17.2.2))
      else
        if 30 ≤ ((x_17.2.1 4) + 1) then
          X8_fault_L12 i a fu 0 (upd x_17.2.1 4 ((x_17.2.1 4) + 1)) x_17.2.2
        else
          let x_50 := X8_takesSign (upd x_17.2.1 4 ((x_17.2.1 4) + 1)) x_17.2.2 44
          if x_50.1 = 0 then
            X8_fault_L12 i a fu 0 x_50.2 x_17.2.2
          else
            X8_fault_L12 i a fu 1 x_50.2 x_17.2.2
def S_X8_fault_L12 (i : Nat → Int32) (a : Nat → Nat → Int32) : Nat → (Int32) → (Nat → Int32) → (Nat → Nat → Int32) → Prop
  | 0, _, _, _ => True
  | fu + 1, v1, i0, a0 =>
    (v1 = 0 →
      ((i0 3) = (i0 2) →
        True) ∧
      (¬ ((i0 3) = (i0 2)) →
        True)) ∧
    (¬ (v1 = 0) →
      (S_X8_isLeafTold i0 a0) ∧
      ∀ x_17, x_17 = X8_isLeafTold i0 a0 →
      (x_17.1 = 0 →
        True) ∧
      (¬ (x_17.1 = 0) →
        (30 ≤ ((x_17.2.1 4) + 1) →
          (S_X8_fault_L12 i a fu 0 (upd x_17.2.1 4 ((x_17.2.1 4) + 1)) x_17.2.2) ∧
          True) ∧
        (¬ (30 ≤ ((x_17.2.1 4) + 1)) →
          (S_X8_takesSign (upd x_17.2.1 4 ((x_17.2.1 4) + 1)) x_17.2.2 44) ∧
          ∀ x_50, x_50 = X8_takesSign (upd x_17.2.1 4 ((x_17.2.1 4) + 1)) x_17.2.2 44 →
          (x_50.1 = 0 →
            (S_X8_fault_L12 i a fu 0 x_50.2 x_17.2.2) ∧
            True) ∧
          (¬ (x_50.1 = 0) →
            (S_X8_fault_L12 i a fu 1 x_50.2 x_17.2.2) ∧
            True))))
def X8_fault (i : Nat → Int32) (a : Nat → Nat → Int32) : Int32 × ((Nat → Int32) × (Nat → Nat → Int32)) :=
  X8_fault_L12 i a (((31 : Int32).toInt - ((upd (upd i 3 0) 4 0) 4 : Int32).toInt).toNat + 1) 1 (upd (upd i 3 0) 4 0) a
def S_X8_fault (i : Nat → Int32) (a : Nat → Nat → Int32) : Prop :=
  (S_X8_fault_L12 i a (((31 : Int32).toInt - ((upd (upd i 3 0) 4 0) 4 : Int32).toInt).toNat + 1) 1 (upd (upd i 3 0) 4 0) a) ∧
  True
theorem iw_X8_fault_8 : ∀ w ∈ wsX80, w ∈ wsX8_fault := by decide +kernel
set_option maxHeartbeats 4000000 in
set_option maxRecDepth 100000 in
theorem c_X8_fault (l : Launch) (D : va_G) (yI yC yO : ClassId) (M : Nat → Nat) (i : Nat → Int32) (a : Nat → Nat → Int32) (sz : Nat) (hs : S_X8_fault i a) : Met l yX8_fault wsX8_fault ({ frames := 4, cells := 0, slots := 0, locals := 120 }) (va_Pc [.ref (M 0)] (lt_M D yI yC yO (lt_Md yI yC M i a) sz)) (lt_Qi D (X8_fault i a) (fun u => lt_Md yI yC M u.1 u.2) (va_A (lt_Md yI yC M i a) sz)) 0 0 (va_A (lt_Md yI yC M i a) sz) := by
  refine Met.ofW (cc := cX8_fault) (maxL := 2) (ret := (some .int)) (by decide) rfl ?_
  intro p e s m args below meth c s₁ B0 hml hv
  obtain ⟨rfl, hsz, hP, hK0, hD0⟩ := hv
  have hx := B0.exec
  have hb := B0.bytes
  have hret := B0.returns
  have hts := atoms_spec (ws := wsX8_fault) B0.pre
  have hown : s.vm.findClass RX8 = some m.cls := findClass_of_methodNamed B0.named
  have hlocks := B0.notSynchronized
  have hK := hK0.1
  have hN := hK0.2
  subst hsz
  have hD := hD0.self (sz := s.heap.size)
  generalize hAe : va_A (lt_Md yI yC M i a) s.heap.size = A at hD ⊢
  have hA : ∀ q : Nat, s.heap.size ≤ q → A q := fun q h => by rw [← hAe]; exact Or.inr h
  have hS : va_S A s.heap s.heap [] := va_S.rf
  have hP : va_P D vwCl (lt_Md yI yC M i a) s.heap := hP
  have hD : va_D A (lt_Md yI yC M i a) := hD
  have hl := lv_entry ([.ref (M 0)]) (n := 2) (Nat.le_of_ble_eq_true rfl)
  rw [lg_entry_eq]
  generalize (lg_sl ([.ref (M 0)]) ++ List.replicate (2 - (lg_sl ([.ref (M 0)])).length) Slot.unset).toArray = ls at hl ⊢
  have hl : lv_has ls 2 [(0, .ref (M 0))] := hl
  refine lv_aload_n hx hb dX8_fault_0 rfl (lv_at hl 0 rfl) ?_
  refine lv_iconst (v := 0) hx hb dX8_fault_1 (by decide) ?_
  refine va_put (D := D) (ci := 8) (v := .int 0) (ty := .int) (C := RX8) (T := TX8) (N := 13) hx hb hts iw_X8_fault_8 tyX8 tyX8_ok nmX8 hown hK hP hD hS 0 rfl rfl 10 (by decide) (hts (.fieldLink RX8 116 "LeafTurnerModel" "spot" "I") (by decide +kernel)) (fun _ h9 => h9) rfl (by decide +kernel) rfl rfl (Nat.le_of_ble_eq_true rfl) dX8_fault_2 (fun H locs hP hD hS => ?_)
  have hP : va_P D vwCl (lt_Md yI yC M (upd i 3 0) a) H := hP
  have hD : va_D A (lt_Md yI yC M (upd i 3 0) a) := hD
  refine lv_aload_n hx hb dX8_fault_5 rfl (lv_at hl 0 rfl) ?_
  refine lv_iconst (v := 0) hx hb dX8_fault_6 (by decide) ?_
  refine va_put (D := D) (ci := 8) (v := .int 0) (ty := .int) (C := RX8) (T := TX8) (N := 13) hx hb hts iw_X8_fault_8 tyX8 tyX8_ok nmX8 hown hK hP hD hS 0 rfl rfl 12 (by decide) (hts (.fieldLink RX8 54 "LeafTurnerModel" "toldMany" "I") (by decide +kernel)) (fun _ h9 => h9) rfl (by decide +kernel) rfl rfl (Nat.le_of_ble_eq_true rfl) dX8_fault_7 (fun H locs hP hD hS => ?_)
  have hP : va_P D vwCl (lt_Md yI yC M (upd (upd i 3 0) 4 0) a) H := hP
  have hD : va_D A (lt_Md yI yC M (upd (upd i 3 0) 4 0) a) := hD
  refine lv_iconst (v := 1) hx hb dX8_fault_10 (by decide) ?_
  refine lv_istore_n (lv' := [(1, .int 1), (0, .ref (M 0))]) hx hb dX8_fault_11 rfl hl (by decide) rfl (fun ls hl => ?_)
  refine lt_loop (σ := (Int32) × (Nat → Int32) × (Nat → Nat → Int32)) (fun fu (x : (Int32) × (Nat → Int32) × (Nat → Nat → Int32)) H locs ls => ∃ (v1 : Int32) (i0 : Nat → Int32) (a0 : Nat → Nat → Int32), x = (v1, i0, a0) ∧ lt_fu fu (31) (i0 4) ∧ X8_fault_L12 i a fu v1 i0 a0 = X8_fault i a ∧ ((v1 = 0 ∨ v1 = 1) ∧ (i0 4).toInt + v1.toInt ≤ 30) ∧ S_X8_fault_L12 i a fu v1 i0 a0 ∧ va_P D vwCl (lt_Md yI yC M i0 a0) H ∧ va_D A (lt_Md yI yC M i0 a0) ∧ va_S A s.heap H locs ∧ lv_has ls 2 [(1, .int v1), (0, .ref (M 0))]) ?_ ?_ (((31 : Int32).toInt - ((upd (upd i 3 0) 4 0) 4 : Int32).toInt).toNat + 1) (1, (upd (upd i 3 0) 4 0), a) _ _ _ ⟨1, (upd (upd i 3 0) 4 0), a, rfl, lt_fuI _ _, (Eq.symm rfl), ⟨Or.inr rfl, (by rw [pk_us]; decide)⟩, hs.1, hP, hD, hS, (lv_sub hl [0, 1] rfl)⟩
  · rintro x H locs ls ⟨_, _, _, -, hF, -⟩
    exact lt_fu0 hF
  · rintro fu ih x H locs ls ⟨v1, i0, a0, rfl, hF, hT, hI, hs, hP, hD, hS, hl⟩
    refine lv_iload_n hx hb dX8_fault_12 rfl (lv_at hl 0 rfl) ?_
    refine lv_if_eq (tgt := 65) hx hb dX8_fault_13 (by decide) (fun c_13 => ?_) (fun c_13 => ?_)
    · have hs := hs.1 c_13
      refine lv_aload_n hx hb dX8_fault_65 rfl (lv_at hl 1 rfl) ?_
      refine va_get (D := D) (ci := 8) (v := .int (i0 3)) (C := RX8) (T := TX8) (N := 13) hx hb hts iw_X8_fault_8 hown hK hP 0 rfl rfl 10 (by decide) (hts (.fieldLink RX8 116 "LeafTurnerModel" "spot" "I") (by decide +kernel)) (fun _ h9 => h9) rfl dX8_fault_66 ?_
      refine lv_aload_n hx hb dX8_fault_69 rfl (lv_at hl 1 rfl) ?_
      refine va_get (D := D) (ci := 8) (v := .int (i0 2)) (C := RX8) (T := TX8) (N := 13) hx hb hts iw_X8_fault_8 hown hK hP 0 rfl rfl 7 (by decide) (hts (.fieldLink RX8 113 "LeafTurnerModel" "length" "I") (by decide +kernel)) (fun _ h9 => h9) rfl dX8_fault_70 ?_
      refine lv_icmp_ne (tgt := 81) hx hb dX8_fault_73 (by decide) (fun c_73 => ?_) (fun c_73 => ?_)
      · have hs := hs.2 c_73
        refine lv_aload_n hx hb dX8_fault_81 rfl (lv_at hl 1 rfl) ?_
        refine va_get (D := D) (ci := 8) (v := .int (i0 3)) (C := RX8) (T := TX8) (N := 13) hx hb hts iw_X8_fault_8 hown hK hP 0 rfl rfl 10 (by decide) (hts (.fieldLink RX8 116 "LeafTurnerModel" "spot" "I") (by decide +kernel)) (fun _ h9 => h9) rfl dX8_fault_82 ?_
        exact W.iret (v := (i0 3)) hx hb hret (fun t ht hW => ⟨⟨(i0 3), (i0, a0), rfl, (Eq.trans (Eq.symm (Eq.trans (if_pos c_13) (Eq.trans (if_neg c_73) rfl))) hT), by rw [ht]; exact hP, hD⟩, hS.F ht⟩) hS.2.2 dX8_fault_85
      · have hs := hs.1 c_73
        refine lv_bipush (v := (-5)) hx hb dX8_fault_76 (by decide) ?_
        refine lv_goto (tgt := 85) hx hb dX8_fault_78 (by decide) ?_
        exact W.iret (v := (-5)) hx hb hret (fun t ht hW => ⟨⟨(-5), (i0, a0), rfl, (Eq.trans (Eq.symm (Eq.trans (if_pos c_13) (Eq.trans (if_pos c_73) rfl))) hT), by rw [ht]; exact hP, hD⟩, hS.F ht⟩) hS.2.2 dX8_fault_85
    · have hs := hs.2 c_13
      refine lv_aload_n hx hb dX8_fault_16 rfl (lv_at hl 1 rfl) ?_
      have ho_17 := hs.1; have hs := hs.2
      have hPc := hP.sub (ws' := lt_Md yI yC M i0 a0) [0, 1, 2, 3, 4, 5, 6, 7, 8] rfl
      have hDc := hD.sub (ws' := lt_Md yI yC M i0 a0) [0, 1, 2, 3, 4, 5, 6, 7, 8] (by decide) rfl
      refine lt_cWi (wc := lt_Md yI yC M i0 a0) (wr := []) (va_runV (As := []) (rest := []) ⟨hx, hb, hml, hown, hts⟩ (c_X8_isLeafTold l D yI yC yO M i0 a0 _ ho_17) (cwV 0 hts gX8_fault_X8_isLeafTold rfl rfl rfl (by decide +kernel) ⟨Nat.le_of_ble_eq_true rfl, Nat.le_of_ble_eq_true rfl⟩) (lt_qV hK0 hPc hDc (va_recv hK hPc (ci := 8) (q0 := 0) rfl rfl)) rfl rfl hl.1 rfl (lv_room (Nat.le_of_ble_eq_true rfl)) dX8_fault_17 ⟨Nat.zero_le _, Nat.zero_le _⟩) hP hD hS hA [0, 1, 2, 3, 4, 5, 6, 7, 8] [] rfl rfl (by decide) (by decide) (fun x_17 e_x_17 H locs hP hD hS => ?_)
      have hP := hP.sub (ws' := lt_Md yI yC M x_17.2.1 x_17.2.2) [0, 1, 2, 3, 4, 5, 6, 7, 8] rfl
      have hD := hD.sub (ws' := lt_Md yI yC M x_17.2.1 x_17.2.2) [0, 1, 2, 3, 4, 5, 6, 7, 8] (by decide) rfl
      have hs := hs x_17 e_x_17
      refine lv_if_ne (tgt := 28) hx hb dX8_fault_20 (by decide) (fun c_20 => ?_) (fun c_20 => ?_)
      · have hs := hs.2 c_20
        refine lv_aload_n hx hb dX8_fault_28 rfl (lv_at hl 1 rfl) ?_
        refine lv_dup hx hb dX8_fault_29 rfl ?_
        refine va_get (D := D) (ci := 8) (v := .int (x_17.2.1 4)) (C := RX8) (T := TX8) (N := 13) hx hb hts iw_X8_fault_8 hown hK hP 0 rfl rfl 12 (by decide) (hts (.fieldLink RX8 54 "LeafTurnerModel" "toldMany" "I") (by decide +kernel)) (fun _ h9 => h9) rfl dX8_fault_30 ?_
        refine lv_iconst (v := 1) hx hb dX8_fault_33 (by decide) ?_
        refine lv_iadd hx hb dX8_fault_34 ?_
        refine va_put (D := D) (ci := 8) (v := .int ((x_17.2.1 4) + 1)) (ty := .int) (C := RX8) (T := TX8) (N := 13) hx hb hts iw_X8_fault_8 tyX8 tyX8_ok nmX8 hown hK hP hD hS 0 rfl rfl 12 (by decide) (hts (.fieldLink RX8 54 "LeafTurnerModel" "toldMany" "I") (by decide +kernel)) (fun _ h9 => h9) rfl (by decide +kernel) rfl rfl (Nat.le_of_ble_eq_true rfl) dX8_fault_35 (fun H locs hP hD hS => ?_)
        have hP : va_P D vwCl (lt_Md yI yC M (upd x_17.2.1 4 ((x_17.2.1 4) + 1)) x_17.2.2) H := hP
        have hD : va_D A (lt_Md yI yC M (upd x_17.2.1 4 ((x_17.2.1 4) + 1)) x_17.2.2) := hD
        refine lv_aload_n hx hb dX8_fault_38 rfl (lv_at hl 1 rfl) ?_
        refine va_get (D := D) (ci := 8) (v := .int ((x_17.2.1 4) + 1)) (C := RX8) (T := TX8) (N := 13) hx hb hts iw_X8_fault_8 hown hK hP 0 rfl rfl 12 (by decide) (hts (.fieldLink RX8 54 "LeafTurnerModel" "toldMany" "I") (by decide +kernel)) (fun _ h9 => h9) rfl dX8_fault_39 ?_
        refine lv_bipush (v := 30) hx hb dX8_fault_42 (by decide) ?_
        refine lv_icmp_ge (tgt := 60) hx hb dX8_fault_44 (by decide) (fun c_44 => ?_) (fun c_44 => ?_)
        · have hs := hs.1 c_44
          refine lv_iconst (v := 0) hx hb dX8_fault_60 (by decide) ?_
          refine lv_istore_n (lv' := [(1, .int 0), (0, .ref (M 0))]) hx hb dX8_fault_61 rfl hl (by decide) rfl (fun ls hl => ?_)
          refine lv_goto (tgt := 12) hx hb dX8_fault_62 (by decide) ?_
          exact ih (0, (upd x_17.2.1 4 ((x_17.2.1 4) + 1)), x_17.2.2) _ _ _ ⟨0, (upd x_17.2.1 4 ((x_17.2.1 4) + 1)), x_17.2.2, rfl, (lt_flt hI c_13 hF (by rw [pk_us, e_x_17]; exact congrArg (· + 1) (lt_lt4 (j := 4) (by decide)))).1, (by subst e_x_17; exact (Eq.trans (Eq.symm (Eq.trans (if_neg c_13) (Eq.trans (if_neg c_20) (Eq.trans (if_pos c_44) rfl)))) hT)), (lt_flt2 hI c_13 (by rw [pk_us, e_x_17]; exact congrArg (· + 1) (lt_lt4 (j := 4) (by decide))) (Or.inl rfl)), hs.1, hP, hD, hS, lv_sub hl [0, 1] rfl⟩
        · have hs := hs.2 c_44
          refine lv_aload_n hx hb dX8_fault_47 rfl (lv_at hl 1 rfl) ?_
          refine lv_bipush (v := 44) hx hb dX8_fault_48 (by decide) ?_
          have ho_50 := hs.1; have hs := hs.2
          have hPc := hP.sub (ws' := lt_Md yI yC M (upd x_17.2.1 4 ((x_17.2.1 4) + 1)) x_17.2.2) [0, 1, 2, 3, 4, 5, 6, 7, 8] rfl
          have hDc := hD.sub (ws' := lt_Md yI yC M (upd x_17.2.1 4 ((x_17.2.1 4) + 1)) x_17.2.2) [0, 1, 2, 3, 4, 5, 6, 7, 8] (by decide) rfl
          refine lt_cWi (wc := lt_Md yI yC M (upd x_17.2.1 4 ((x_17.2.1 4) + 1)) x_17.2.2) (wr := []) (va_runV (As := [.int 44]) (rest := []) ⟨hx, hb, hml, hown, hts⟩ (c_X8_takesSign l D yI yC yO M (upd x_17.2.1 4 ((x_17.2.1 4) + 1)) x_17.2.2 44 _ ho_50) (cwV 1 hts gX8_fault_X8_takesSign rfl rfl rfl (by decide +kernel) ⟨Nat.le_of_ble_eq_true rfl, Nat.le_of_ble_eq_true rfl⟩) (lt_qV hK0 hPc hDc (va_recv hK hPc (ci := 8) (q0 := 0) rfl rfl)) rfl rfl hl.1 rfl (lv_room (Nat.le_of_ble_eq_true rfl)) dX8_fault_50 ⟨Nat.zero_le _, Nat.zero_le _⟩) hP hD hS hA [0, 1, 2, 3, 4, 5, 6, 7, 8] [] rfl rfl (by decide) (by decide) (fun x_50 e_x_50 H locs hP hD hS => ?_)
          have hP := hP.sub (ws' := lt_Md yI yC M x_50.2 x_17.2.2) [0, 1, 2, 3, 4, 5, 6, 7, 8] rfl
          have hD := hD.sub (ws' := lt_Md yI yC M x_50.2 x_17.2.2) [0, 1, 2, 3, 4, 5, 6, 7, 8] (by decide) rfl
          have hs := hs x_50 e_x_50
          refine lv_if_eq (tgt := 60) hx hb dX8_fault_53 (by decide) (fun c_53 => ?_) (fun c_53 => ?_)
          · have hs := hs.1 c_53
            refine lv_iconst (v := 0) hx hb dX8_fault_60 (by decide) ?_
            refine lv_istore_n (lv' := [(1, .int 0), (0, .ref (M 0))]) hx hb dX8_fault_61 rfl hl (by decide) rfl (fun ls hl => ?_)
            refine lv_goto (tgt := 12) hx hb dX8_fault_62 (by decide) ?_
            exact ih (0, x_50.2, x_17.2.2) _ _ _ ⟨0, x_50.2, x_17.2.2, rfl, (lt_flt hI c_13 hF (by rw [e_x_50, lt_ts4 (j := 4) (by decide), pk_us, e_x_17]; exact congrArg (· + 1) (lt_lt4 (j := 4) (by decide)))).1, (by subst e_x_50 e_x_17; exact (Eq.trans (Eq.symm (Eq.trans (if_neg c_13) (Eq.trans (if_neg c_20) (Eq.trans (if_neg c_44) (Eq.trans (if_pos c_53) rfl))))) hT)), (lt_flt2 hI c_13 (by rw [e_x_50, lt_ts4 (j := 4) (by decide), pk_us, e_x_17]; exact congrArg (· + 1) (lt_lt4 (j := 4) (by decide))) (Or.inl rfl)), hs.1, hP, hD, hS, lv_sub hl [0, 1] rfl⟩
          · have hs := hs.2 c_53
            refine lv_iconst (v := 1) hx hb dX8_fault_56 (by decide) ?_
            refine lv_goto (tgt := 61) hx hb dX8_fault_57 (by decide) ?_
            refine lv_istore_n (lv' := [(1, .int 1), (0, .ref (M 0))]) hx hb dX8_fault_61 rfl hl (by decide) rfl (fun ls hl => ?_)
            refine lv_goto (tgt := 12) hx hb dX8_fault_62 (by decide) ?_
            exact ih (1, x_50.2, x_17.2.2) _ _ _ ⟨1, x_50.2, x_17.2.2, rfl, (lt_flt hI c_13 hF (by rw [e_x_50, lt_ts4 (j := 4) (by decide), pk_us, e_x_17]; exact congrArg (· + 1) (lt_lt4 (j := 4) (by decide)))).1, (by subst e_x_50 e_x_17; exact (Eq.trans (Eq.symm (Eq.trans (if_neg c_13) (Eq.trans (if_neg c_20) (Eq.trans (if_neg c_44) (Eq.trans (if_neg c_53) rfl))))) hT)), (lt_flt2 hI c_13 (by rw [e_x_50, lt_ts4 (j := 4) (by decide), pk_us, e_x_17]; exact congrArg (· + 1) (lt_lt4 (j := 4) (by decide))) (Or.inr ⟨rfl, by rw [e_x_50, lt_ts4 (j := 4) (by decide), pk_us]; exact c_44⟩)), hs.1, hP, hD, hS, lv_sub hl [0, 1] rfl⟩
      · have hs := hs.1 c_20
        refine lv_aload_n hx hb dX8_fault_23 rfl (lv_at hl 1 rfl) ?_
        refine va_get (D := D) (ci := 8) (v := .int (x_17.2.1 3)) (C := RX8) (T := TX8) (N := 13) hx hb hts iw_X8_fault_8 hown hK hP 0 rfl rfl 10 (by decide) (hts (.fieldLink RX8 116 "LeafTurnerModel" "spot" "I") (by decide +kernel)) (fun _ h9 => h9) rfl dX8_fault_24 ?_
        exact W.iret (v := (x_17.2.1 3)) hx hb hret (fun t ht hW => ⟨⟨(x_17.2.1 3), (x_17.2.1, x_17.2.2), rfl, (by subst e_x_17; exact (Eq.trans (Eq.symm (Eq.trans (if_neg c_13) (Eq.trans (if_pos c_20) rfl))) hT)), by rw [ht]; exact hP, hD⟩, hS.F ht⟩) hS.2.2 dX8_fault_27
