def X8_takeBook_L30 (i : Nat → Int32) (a : Nat → Nat → Int32) : Nat → (Int32) → (Nat → Int32) → (Nat → Nat → Int32) → Int32 × ((Nat → Int32) × (Nat → Nat → Int32))
  | 0, _, _, _ => (0, (i, a))
  | fu + 1, v2, i0, a0 =>
    if (i0 4) ≤ v2 then
      ((i0 4), (i0, a0))
    else
      let x_67 := X8_adds i0 a0 ((a0 7) (3 * v2).toNatClampNeg) ((a0 7) ((3 * v2) + 1).toNatClampNeg) ((a0 7) ((3 * v2) + 2).toNatClampNeg)
      X8_takeBook_L30 i a fu (v2 + 1) i0 x_67
def S_X8_takeBook_L30 (i : Nat → Int32) (a : Nat → Nat → Int32) : Nat → (Int32) → (Nat → Int32) → (Nat → Nat → Int32) → Prop
  | 0, _, _, _ => True
  | fu + 1, v2, i0, a0 =>
    ((i0 4) ≤ v2 →
      True) ∧
    (¬ ((i0 4) ≤ v2) →
      (vp_in (3 * v2) 93) ∧
      (vp_in ((3 * v2) + 1) 93) ∧
      (vp_in ((3 * v2) + 2) 93) ∧
      (S_X8_adds i0 a0 ((a0 7) (3 * v2).toNatClampNeg) ((a0 7) ((3 * v2) + 1).toNatClampNeg) ((a0 7) ((3 * v2) + 2).toNatClampNeg)) ∧
      ∀ x_67, x_67 = X8_adds i0 a0 ((a0 7) (3 * v2).toNatClampNeg) ((a0 7) ((3 * v2) + 1).toNatClampNeg) ((a0 7) ((3 * v2) + 2).toNatClampNeg) →
      (S_X8_takeBook_L30 i a fu (v2 + 1) i0 x_67) ∧
      True)
def X8_takeBook (i : Nat → Int32) (a : Nat → Nat → Int32) : Int32 × ((Nat → Int32) × (Nat → Nat → Int32)) :=
  let x_1 := X8_fault i a
  if x_1.1 = (-5) then
    let x_21 := X8_records x_1.2.1 x_1.2.2
    let x_25 := X8_clears x_21.1 x_21.2
    X8_takeBook_L30 i a (((x_21.1 4 : Int32).toInt - (0 : Int32).toInt).toNat + 1) 0 x_21.1 x_25
  else
    (((-100) - x_1.1), (x_1.2.1, x_1.2.2))
def S_X8_takeBook (i : Nat → Int32) (a : Nat → Nat → Int32) : Prop :=
  (S_X8_fault i a) ∧
  ∀ x_1, x_1 = X8_fault i a →
  (x_1.1 = (-5) →
    (S_X8_records x_1.2.1 x_1.2.2) ∧
    ∀ x_21, x_21 = X8_records x_1.2.1 x_1.2.2 →
    (S_X8_clears x_21.1 x_21.2) ∧
    ∀ x_25, x_25 = X8_clears x_21.1 x_21.2 →
    (S_X8_takeBook_L30 i a (((x_21.1 4 : Int32).toInt - (0 : Int32).toInt).toNat + 1) 0 x_21.1 x_25) ∧
    True) ∧
  (¬ (x_1.1 = (-5)) →
    True)
theorem iw_X8_takeBook_8 : ∀ w ∈ wsX80, w ∈ wsX8_takeBook := by decide +kernel
set_option maxHeartbeats 4000000 in
set_option maxRecDepth 100000 in
theorem c_X8_takeBook (l : Launch) (D : va_G) (yI yC yO : ClassId) (M : Nat → Nat) (i : Nat → Int32) (a : Nat → Nat → Int32) (sz : Nat) (hs : S_X8_takeBook i a) : Met l yX8_takeBook wsX8_takeBook ({ frames := 5, cells := 0, slots := 0, locals := 150 }) (va_Pc [.ref (M 0)] (lt_M D yI yC yO (lt_Md yI yC M i a) sz)) (lt_Qi D (X8_takeBook i a) (fun u => lt_Md yI yC M u.1 u.2) (va_A (lt_Md yI yC M i a) sz)) 0 0 (va_A (lt_Md yI yC M i a) sz) := by
  refine Met.ofW (cc := cX8_takeBook) (maxL := 3) (ret := (some .int)) (by decide) rfl ?_
  intro p e s m args below meth c s₁ B0 hml hv
  obtain ⟨rfl, hsz, hP, hK0, hD0⟩ := hv
  have hx := B0.exec
  have hb := B0.bytes
  have hret := B0.returns
  have hts := atoms_spec (ws := wsX8_takeBook) B0.pre
  have hown : s.vm.findClass RX8 = some m.cls := findClass_of_methodNamed B0.named
  have hlocks := B0.notSynchronized
  have hK := hK0.1
  have hN := hK0.2
  subst hsz
  have hD := hD0.self (sz := s.heap.size)
  generalize hAe : va_A (lt_Md yI yC M i a) s.heap.size = A at hD ⊢
  have hA : ∀ q : Nat, s.heap.size ≤ q → A q := fun q h => by rw [← hAe]; exact Or.inr h
  have hS : va_S A s.heap s.heap [] := va_S.rf
  have hP : va_P D vwCl (lt_Md yI yC M i a) s.heap := hP
  have hD : va_D A (lt_Md yI yC M i a) := hD
  have hl := lv_entry ([.ref (M 0)]) (n := 3) (Nat.le_of_ble_eq_true rfl)
  rw [lg_entry_eq]
  generalize (lg_sl ([.ref (M 0)]) ++ List.replicate (3 - (lg_sl ([.ref (M 0)])).length) Slot.unset).toArray = ls at hl ⊢
  have hl : lv_has ls 3 [(0, .ref (M 0))] := hl
  refine lv_aload_n hx hb dX8_takeBook_0 rfl (lv_at hl 0 rfl) ?_
  have ho_1 := hs.1; have hs := hs.2
  have hPc := hP.sub (ws' := lt_Md yI yC M i a) [0, 1, 2, 3, 4, 5, 6, 7, 8] rfl
  have hDc := hD.sub (ws' := lt_Md yI yC M i a) [0, 1, 2, 3, 4, 5, 6, 7, 8] (by decide) rfl
  refine lt_cWi (wc := lt_Md yI yC M i a) (wr := []) (va_runV (As := []) (rest := []) ⟨hx, hb, hml, hown, hts⟩ (c_X8_fault l D yI yC yO M i a _ ho_1) (cwV 0 hts gX8_takeBook_X8_fault rfl rfl rfl (by decide +kernel) ⟨Nat.le_of_ble_eq_true rfl, Nat.le_of_ble_eq_true rfl⟩) (lt_qV hK0 hPc hDc (va_recv hK hPc (ci := 8) (q0 := 0) rfl rfl)) rfl rfl hl.1 rfl (lv_room (Nat.le_of_ble_eq_true rfl)) dX8_takeBook_1 ⟨Nat.zero_le _, Nat.zero_le _⟩) hP hD hS hA [0, 1, 2, 3, 4, 5, 6, 7, 8] [] rfl rfl (by decide) (by decide) (fun x_1 e_x_1 H locs hP hD hS => ?_)
  have hP := hP.sub (ws' := lt_Md yI yC M x_1.2.1 x_1.2.2) [0, 1, 2, 3, 4, 5, 6, 7, 8] rfl
  have hD := hD.sub (ws' := lt_Md yI yC M x_1.2.1 x_1.2.2) [0, 1, 2, 3, 4, 5, 6, 7, 8] (by decide) rfl
  have hs := hs x_1 e_x_1
  refine lv_istore_n (lv' := [(1, .int x_1.1), (0, .ref (M 0))]) hx hb dX8_takeBook_4 rfl hl (by decide) rfl (fun ls hl => ?_)
  refine lv_iload_n hx hb dX8_takeBook_5 rfl (lv_at hl 0 rfl) ?_
  refine lv_bipush (v := (-5)) hx hb dX8_takeBook_6 (by decide) ?_
  refine lv_icmp_eq (tgt := 16) hx hb dX8_takeBook_8 (by decide) (fun c_8 => ?_) (fun c_8 => ?_)
  · have hs := hs.1 c_8
    refine lv_aload_n hx hb dX8_takeBook_16 rfl (lv_at hl 1 rfl) ?_
    refine lv_aload_n hx hb dX8_takeBook_17 rfl (lv_at hl 1 rfl) ?_
    refine va_get (D := D) (ci := 8) (v := .ref (M 1)) (C := RX8) (T := TX8) (N := 13) hx hb hts iw_X8_takeBook_8 hown hK hP 0 rfl rfl 0 (by decide) (hts (.fieldLink RX8 7 "LeafTurnerModel" "now" "[I") (by decide +kernel)) (fun _ h9 => h9) rfl dX8_takeBook_18 ?_
    have ho_21 := hs.1; have hs := hs.2
    have hPc := hP.sub (ws' := lt_Md yI yC M x_1.2.1 x_1.2.2) [0, 1, 2, 3, 4, 5, 6, 7, 8] rfl
    have hDc := hD.sub (ws' := lt_Md yI yC M x_1.2.1 x_1.2.2) [0, 1, 2, 3, 4, 5, 6, 7, 8] (by decide) rfl
    refine lt_cWv (wc := lt_Md yI yC M x_1.2.1 x_1.2.2) (wr := []) (va_runV (As := [.ref (M 1)]) (rest := []) ⟨hx, hb, hml, hown, hts⟩ (c_X8_records l D yI yC yO M x_1.2.1 x_1.2.2 _ ho_21) (cwV 1 hts gX8_takeBook_X8_records rfl rfl rfl (by decide +kernel) ⟨Nat.le_of_ble_eq_true rfl, Nat.le_of_ble_eq_true rfl⟩) (lt_qV hK0 hPc hDc (va_recv hK hPc (ci := 8) (q0 := 0) rfl rfl)) rfl rfl hl.1 rfl (lv_room (Nat.le_of_ble_eq_true rfl)) dX8_takeBook_21 ⟨Nat.zero_le _, Nat.zero_le _⟩) hP hD hS hA [0, 1, 2, 3, 4, 5, 6, 7, 8] [] rfl rfl (by decide) (by decide) (fun x_21 e_x_21 H locs hP hD hS => ?_)
    have hP := hP.sub (ws' := lt_Md yI yC M x_21.1 x_21.2) [0, 1, 2, 3, 4, 5, 6, 7, 8] rfl
    have hD := hD.sub (ws' := lt_Md yI yC M x_21.1 x_21.2) [0, 1, 2, 3, 4, 5, 6, 7, 8] (by decide) rfl
    have hs := hs x_21 e_x_21
    refine lv_aload_n hx hb dX8_takeBook_24 rfl (lv_at hl 1 rfl) ?_
    have ho_25 := hs.1; have hs := hs.2
    have hPc := hP.sub (ws' := lt_Md yI yC M x_21.1 x_21.2) [0, 1, 2, 3, 4, 5, 6, 7, 8] rfl
    have hDc := hD.sub (ws' := lt_Md yI yC M x_21.1 x_21.2) [0, 1, 2, 3, 4, 5, 6, 7, 8] (by decide) rfl
    refine lt_cWv (wc := lt_Md yI yC M x_21.1 x_21.2) (wr := []) (va_runV (As := []) (rest := []) ⟨hx, hb, hml, hown, hts⟩ (c_X8_clears l D yI yC yO M x_21.1 x_21.2 _ ho_25) (cwV 0 hts gX8_takeBook_X8_clears rfl rfl rfl (by decide +kernel) ⟨Nat.le_of_ble_eq_true rfl, Nat.le_of_ble_eq_true rfl⟩) (lt_qV hK0 hPc hDc (va_recv hK hPc (ci := 8) (q0 := 0) rfl rfl)) rfl rfl hl.1 rfl (lv_room (Nat.le_of_ble_eq_true rfl)) dX8_takeBook_25 ⟨Nat.zero_le _, Nat.zero_le _⟩) hP hD hS hA [0, 1, 2, 3, 4, 5, 6, 7, 8] [] rfl rfl (by decide) (by decide) (fun x_25 e_x_25 H locs hP hD hS => ?_)
    have hP := hP.sub (ws' := lt_Md yI yC M x_21.1 x_25) [0, 1, 2, 3, 4, 5, 6, 7, 8] rfl
    have hD := hD.sub (ws' := lt_Md yI yC M x_21.1 x_25) [0, 1, 2, 3, 4, 5, 6, 7, 8] (by decide) rfl
    have hs := hs x_25 e_x_25
    refine lv_iconst (v := 0) hx hb dX8_takeBook_28 (by decide) ?_
    refine lv_istore_n (lv' := [(2, .int 0), (1, .int x_1.1), (0, .ref (M 0))]) hx hb dX8_takeBook_29 rfl hl (by decide) rfl (fun ls hl => ?_)
    refine lt_loop (σ := (Int32) × (Nat → Int32) × (Nat → Nat → Int32)) (fun fu (x : (Int32) × (Nat → Int32) × (Nat → Nat → Int32)) H locs ls => ∃ (v2 : Int32) (i0 : Nat → Int32) (a0 : Nat → Nat → Int32), x = (v2, i0, a0) ∧ lt_fu fu (i0 4) (v2) ∧ X8_takeBook_L30 i a fu v2 i0 a0 = X8_takeBook i a ∧ S_X8_takeBook_L30 i a fu v2 i0 a0 ∧ va_P D vwCl (lt_Md yI yC M i0 a0) H ∧ va_D A (lt_Md yI yC M i0 a0) ∧ va_S A s.heap H locs ∧ lv_has ls 3 [(2, .int v2), (1, .int x_1.1), (0, .ref (M 0))]) ?_ ?_ (((x_21.1 4 : Int32).toInt - (0 : Int32).toInt).toNat + 1) (0, x_21.1, x_25) _ _ _ ⟨0, x_21.1, x_25, rfl, lt_fuI _ _, (by subst e_x_25 e_x_21 e_x_1; exact (Eq.symm (Eq.trans (if_pos c_8) rfl))), hs.1, hP, hD, hS, (lv_sub hl [0, 1, 2] rfl)⟩
    · rintro x H locs ls ⟨_, _, _, -, hF, -⟩
      exact lt_fu0 hF
    · rintro fu ih x H locs ls ⟨v2, i0, a0, rfl, hF, hT, hs, hP, hD, hS, hl⟩
      refine lv_iload_n hx hb dX8_takeBook_30 rfl (lv_at hl 0 rfl) ?_
      refine lv_aload_n hx hb dX8_takeBook_31 rfl (lv_at hl 2 rfl) ?_
      refine va_get (D := D) (ci := 8) (v := .int (i0 4)) (C := RX8) (T := TX8) (N := 13) hx hb hts iw_X8_takeBook_8 hown hK hP 0 rfl rfl 12 (by decide) (hts (.fieldLink RX8 54 "LeafTurnerModel" "toldMany" "I") (by decide +kernel)) (fun _ h9 => h9) rfl dX8_takeBook_32 ?_
      refine lv_icmp_ge (tgt := 76) hx hb dX8_takeBook_35 (by decide) (fun c_35 => ?_) (fun c_35 => ?_)
      · have hs := hs.1 c_35
        refine lv_aload_n hx hb dX8_takeBook_76 rfl (lv_at hl 2 rfl) ?_
        refine va_get (D := D) (ci := 8) (v := .int (i0 4)) (C := RX8) (T := TX8) (N := 13) hx hb hts iw_X8_takeBook_8 hown hK hP 0 rfl rfl 12 (by decide) (hts (.fieldLink RX8 54 "LeafTurnerModel" "toldMany" "I") (by decide +kernel)) (fun _ h9 => h9) rfl dX8_takeBook_77 ?_
        exact W.iret (v := (i0 4)) hx hb hret (fun t ht hW => ⟨⟨(i0 4), (i0, a0), rfl, (Eq.trans (Eq.symm (Eq.trans (if_pos c_35) rfl)) hT), by rw [ht]; exact hP, hD⟩, hS.F ht⟩) hS.2.2 dX8_takeBook_80
      · have hs := hs.2 c_35
        refine lv_aload_n hx hb dX8_takeBook_38 rfl (lv_at hl 2 rfl) ?_
        refine lv_aload_n hx hb dX8_takeBook_39 rfl (lv_at hl 2 rfl) ?_
        refine va_get (D := D) (ci := 8) (v := .ref (M 8)) (C := RX8) (T := TX8) (N := 13) hx hb hts iw_X8_takeBook_8 hown hK hP 0 rfl rfl 11 (by decide) (hts (.fieldLink RX8 32 "LeafTurnerModel" "told" "[I") (by decide +kernel)) (fun _ h9 => h9) rfl dX8_takeBook_40 ?_
        refine lv_iconst (v := 3) hx hb dX8_takeBook_43 (by decide) ?_
        refine lv_iload_n hx hb dX8_takeBook_44 rfl (lv_at hl 0 rfl) ?_
        refine lv_imul hx hb dX8_takeBook_45 ?_
        have ho_46 := hs.1; have hs := hs.2
        refine va_iald hx hb hK hP 8 0 rfl rfl (i := (3 * v2)) (ho_46) dX8_takeBook_46 ?_
        refine lv_aload_n hx hb dX8_takeBook_47 rfl (lv_at hl 2 rfl) ?_
        refine va_get (D := D) (ci := 8) (v := .ref (M 8)) (C := RX8) (T := TX8) (N := 13) hx hb hts iw_X8_takeBook_8 hown hK hP 0 rfl rfl 11 (by decide) (hts (.fieldLink RX8 32 "LeafTurnerModel" "told" "[I") (by decide +kernel)) (fun _ h9 => h9) rfl dX8_takeBook_48 ?_
        refine lv_iconst (v := 3) hx hb dX8_takeBook_51 (by decide) ?_
        refine lv_iload_n hx hb dX8_takeBook_52 rfl (lv_at hl 0 rfl) ?_
        refine lv_imul hx hb dX8_takeBook_53 ?_
        refine lv_iconst (v := 1) hx hb dX8_takeBook_54 (by decide) ?_
        refine lv_iadd hx hb dX8_takeBook_55 ?_
        have ho_56 := hs.1; have hs := hs.2
        refine va_iald hx hb hK hP 8 0 rfl rfl (i := ((3 * v2) + 1)) (ho_56) dX8_takeBook_56 ?_
        refine lv_aload_n hx hb dX8_takeBook_57 rfl (lv_at hl 2 rfl) ?_
        refine va_get (D := D) (ci := 8) (v := .ref (M 8)) (C := RX8) (T := TX8) (N := 13) hx hb hts iw_X8_takeBook_8 hown hK hP 0 rfl rfl 11 (by decide) (hts (.fieldLink RX8 32 "LeafTurnerModel" "told" "[I") (by decide +kernel)) (fun _ h9 => h9) rfl dX8_takeBook_58 ?_
        refine lv_iconst (v := 3) hx hb dX8_takeBook_61 (by decide) ?_
        refine lv_iload_n hx hb dX8_takeBook_62 rfl (lv_at hl 0 rfl) ?_
        refine lv_imul hx hb dX8_takeBook_63 ?_
        refine lv_iconst (v := 2) hx hb dX8_takeBook_64 (by decide) ?_
        refine lv_iadd hx hb dX8_takeBook_65 ?_
        have ho_66 := hs.1; have hs := hs.2
        refine va_iald hx hb hK hP 8 0 rfl rfl (i := ((3 * v2) + 2)) (ho_66) dX8_takeBook_66 ?_
        have ho_67 := hs.1; have hs := hs.2
        have hPc := hP.sub (ws' := lt_Md yI yC M i0 a0) [0, 1, 2, 3, 4, 5, 6, 7, 8] rfl
        have hDc := hD.sub (ws' := lt_Md yI yC M i0 a0) [0, 1, 2, 3, 4, 5, 6, 7, 8] (by decide) rfl
        refine lt_cWv (wc := lt_Md yI yC M i0 a0) (wr := []) (va_runV (As := [.int ((a0 7) (3 * v2).toNatClampNeg), .int ((a0 7) ((3 * v2) + 1).toNatClampNeg), .int ((a0 7) ((3 * v2) + 2).toNatClampNeg)]) (rest := []) ⟨hx, hb, hml, hown, hts⟩ (c_X8_adds l D yI yC yO M i0 a0 ((a0 7) (3 * v2).toNatClampNeg) ((a0 7) ((3 * v2) + 1).toNatClampNeg) ((a0 7) ((3 * v2) + 2).toNatClampNeg) _ ho_67) (cwV 3 hts gX8_takeBook_X8_adds rfl rfl rfl (by decide +kernel) ⟨Nat.le_of_ble_eq_true rfl, Nat.le_of_ble_eq_true rfl⟩) (lt_qV hK0 hPc hDc (va_recv hK hPc (ci := 8) (q0 := 0) rfl rfl)) rfl rfl hl.1 rfl (lv_room (Nat.le_of_ble_eq_true rfl)) dX8_takeBook_67 ⟨Nat.zero_le _, Nat.zero_le _⟩) hP hD hS hA [0, 1, 2, 3, 4, 5, 6, 7, 8] [] rfl rfl (by decide) (by decide) (fun x_67 e_x_67 H locs hP hD hS => ?_)
        have hP := hP.sub (ws' := lt_Md yI yC M i0 x_67) [0, 1, 2, 3, 4, 5, 6, 7, 8] rfl
        have hD := hD.sub (ws' := lt_Md yI yC M i0 x_67) [0, 1, 2, 3, 4, 5, 6, 7, 8] (by decide) rfl
        have hs := hs x_67 e_x_67
        refine lv_iinc (v := (v2 + 1)) (lv' := [(2, .int (v2 + 1)), (1, .int x_1.1), (0, .ref (M 0))]) hx hb dX8_takeBook_70 hl (k := 0) rfl (rfl) (by decide) rfl (fun ls hl => ?_)
        refine lv_goto (tgt := 30) hx hb dX8_takeBook_73 (by decide) ?_
        exact ih ((v2 + 1), i0, x_67) _ _ _ ⟨(v2 + 1), i0, x_67, rfl, lt_fuS hF (lt_nle c_35), (by subst e_x_67; exact (Eq.trans (Eq.symm (Eq.trans (if_neg c_35) rfl)) hT)), hs.1, hP, hD, hS, lv_sub hl [0, 1, 2] rfl⟩
  · have hs := hs.2 c_8
    refine lv_bipush (v := (-100)) hx hb dX8_takeBook_11 (by decide) ?_
    refine lv_iload_n hx hb dX8_takeBook_13 rfl (lv_at hl 0 rfl) ?_
    refine lv_isub hx hb dX8_takeBook_14 ?_
    exact W.iret (v := ((-100) - x_1.1)) hx hb hret (fun t ht hW => ⟨⟨((-100) - x_1.1), (x_1.2.1, x_1.2.2), rfl, (by subst e_x_1; exact (Eq.symm (Eq.trans (if_neg c_8) rfl))), by rw [ht]; exact hP, hD⟩, hS.F ht⟩) hS.2.2 dX8_takeBook_15

def X8_layBook_L44 (i : Nat → Int32) (a : Nat → Nat → Int32) (p0 : Int32) (p1 : Int32) : Nat → (Int32) → (Int32) → (Int32) → (Nat → Int32) → (Nat → Nat → Int32) → Int32 × ((Nat → Int32) × (Nat → Nat → Int32))
  | 0, _, _, _, _, _ => (0, (i, a))
  | fu + 1, v3, v4, v5, i0, a0 =>
    if p0 ≤ v5 then
      (v4, (i0, a0))
    else
      let v_63 := ((421 * v3) + 1663) - ((421 * v3) + 1663) / 10000 * 10000
      let v_71 := (v_63 / 10) - (v_63 / 10) / 10 * 10
      if 6 ≤ v_71 then
        if ((v_63 / 100) - (v_63 / 100) / 8 * 8) = 0 then
          let x_108 := X8_adds i0 a0 (1 + (v_63 - v_63 / 5 * 5)) v_71 (-5)
          let v_119 := v4 + (1 + (v_63 - v_63 / 5 * 5))
          X8_layBook_L44 i a p0 p1 fu v_63 v_119 (v5 + 1) i0 x_108
        else
          let x_108 := X8_adds i0 a0 (1 + (v_63 - v_63 / 5 * 5)) v_71 1
          let v_119 := v4 + (1 + (v_63 - v_63 / 5 * 5))
          X8_layBook_L44 i a p0 p1 fu v_63 v_119 (v5 + 1) i0 x_108
      else
        if ((v_63 / 100) - (v_63 / 100) / 8 * 8) = 0 then
          let x_108 := X8_adds i0 a0 (1 + (v_63 - v_63 / 5 * 5)) 0 (-5)
          let v_119 := v4 + (1 + (v_63 - v_63 / 5 * 5))
          X8_layBook_L44 i a p0 p1 fu v_63 v_119 (v5 + 1) i0 x_108
        else
          let x_108 := X8_adds i0 a0 (1 + (v_63 - v_63 / 5 * 5)) 0 1
          let v_119 := v4 + (1 + (v_63 - v_63 / 5 * 5))
          X8_layBook_L44 i a p0 p1 fu v_63 v_119 (v5 + 1) i0 x_108
def S_X8_layBook_L44 (i : Nat → Int32) (a : Nat → Nat → Int32) (p0 : Int32) (p1 : Int32) : Nat → (Int32) → (Int32) → (Int32) → (Nat → Int32) → (Nat → Nat → Int32) → Prop
  | 0, _, _, _, _, _ => True
  | fu + 1, v3, v4, v5, i0, a0 =>
    (p0 ≤ v5 →
      True) ∧
    (¬ (p0 ≤ v5) →
      ∀ v_63, v_63 = ((421 * v3) + 1663) - ((421 * v3) + 1663) / 10000 * 10000 →
      ∀ v_71, v_71 = (v_63 / 10) - (v_63 / 10) / 10 * 10 →
      (6 ≤ v_71 →
        (((v_63 / 100) - (v_63 / 100) / 8 * 8) = 0 →
          (S_X8_adds i0 a0 (1 + (v_63 - v_63 / 5 * 5)) v_71 (-5)) ∧
          ∀ x_108, x_108 = X8_adds i0 a0 (1 + (v_63 - v_63 / 5 * 5)) v_71 (-5) →
          ∀ v_119, v_119 = v4 + (1 + (v_63 - v_63 / 5 * 5)) →
          (S_X8_layBook_L44 i a p0 p1 fu v_63 v_119 (v5 + 1) i0 x_108) ∧
          True) ∧
        (¬ (((v_63 / 100) - (v_63 / 100) / 8 * 8) = 0) →
          (S_X8_adds i0 a0 (1 + (v_63 - v_63 / 5 * 5)) v_71 1) ∧
          ∀ x_108, x_108 = X8_adds i0 a0 (1 + (v_63 - v_63 / 5 * 5)) v_71 1 →
          ∀ v_119, v_119 = v4 + (1 + (v_63 - v_63 / 5 * 5)) →
          (S_X8_layBook_L44 i a p0 p1 fu v_63 v_119 (v5 + 1) i0 x_108) ∧
          True)) ∧
      (¬ (6 ≤ v_71) →
        (((v_63 / 100) - (v_63 / 100) / 8 * 8) = 0 →
          (S_X8_adds i0 a0 (1 + (v_63 - v_63 / 5 * 5)) 0 (-5)) ∧
          ∀ x_108, x_108 = X8_adds i0 a0 (1 + (v_63 - v_63 / 5 * 5)) 0 (-5) →
          ∀ v_119, v_119 = v4 + (1 + (v_63 - v_63 / 5 * 5)) →
          (S_X8_layBook_L44 i a p0 p1 fu v_63 v_119 (v5 + 1) i0 x_108) ∧
          True) ∧
        (¬ (((v_63 / 100) - (v_63 / 100) / 8 * 8) = 0) →
          (S_X8_adds i0 a0 (1 + (v_63 - v_63 / 5 * 5)) 0 1) ∧
          ∀ x_108, x_108 = X8_adds i0 a0 (1 + (v_63 - v_63 / 5 * 5)) 0 1 →
          ∀ v_119, v_119 = v4 + (1 + (v_63 - v_63 / 5 * 5)) →
          (S_X8_layBook_L44 i a p0 p1 fu v_63 v_119 (v5 + 1) i0 x_108) ∧
          True)))
def X8_layBook (i : Nat → Int32) (a : Nat → Nat → Int32) (p0 : Int32) (p1 : Int32) : Int32 × ((Nat → Int32) × (Nat → Nat → Int32)) :=
  let r_4 := X8_in p0 1 30
  if r_4 = 0 then
    ((-2), (i, a))
  else
    let r_15 := X8_in p1 0 9999
    if r_15 = 0 then
      ((-2), (i, a))
    else
      let x_29 := X8_records i a
      let x_33 := X8_clears x_29.1 x_29.2
      X8_layBook_L44 i a p0 p1 (((p0 : Int32).toInt - (0 : Int32).toInt).toNat + 1) p1 0 0 x_29.1 x_33
def S_X8_layBook (i : Nat → Int32) (a : Nat → Nat → Int32) (p0 : Int32) (p1 : Int32) : Prop :=
  ∀ r_4, r_4 = X8_in p0 1 30 →
  (r_4 = 0 →
    True) ∧
  (¬ (r_4 = 0) →
    ∀ r_15, r_15 = X8_in p1 0 9999 →
    (r_15 = 0 →
      True) ∧
    (¬ (r_15 = 0) →
      (S_X8_records i a) ∧
      ∀ x_29, x_29 = X8_records i a →
      (S_X8_clears x_29.1 x_29.2) ∧
      ∀ x_33, x_33 = X8_clears x_29.1 x_29.2 →
      (S_X8_layBook_L44 i a p0 p1 (((p0 : Int32).toInt - (0 : Int32).toInt).toNat + 1) p1 0 0 x_29.1 x_33) ∧
      True))
theorem iw_X8_layBook_8 : ∀ w ∈ wsX80, w ∈ wsX8_layBook := by decide +kernel
set_option maxHeartbeats 4000000 in
set_option maxRecDepth 100000 in
theorem c_X8_layBook (l : Launch) (D : va_G) (yI yC yO : ClassId) (M : Nat → Nat) (i : Nat → Int32) (a : Nat → Nat → Int32) (p0 : Int32) (p1 : Int32) (sz : Nat) (hs : S_X8_layBook i a p0 p1) : Met l yX8_layBook wsX8_layBook ({ frames := 2, cells := 0, slots := 0, locals := 60 }) (va_Pc [.ref (M 0), .int p0, .int p1] (lt_M D yI yC yO (lt_Md yI yC M i a) sz)) (lt_Qi D (X8_layBook i a p0 p1) (fun u => lt_Md yI yC M u.1 u.2) (va_A (lt_Md yI yC M i a) sz)) 0 0 (va_A (lt_Md yI yC M i a) sz) := by
  refine Met.ofW (cc := cX8_layBook) (maxL := 7) (ret := (some .int)) (by decide) rfl ?_
  intro p e s m args below meth c s₁ B0 hml hv
  obtain ⟨rfl, hsz, hP, hK0, hD0⟩ := hv
  have hx := B0.exec
  have hb := B0.bytes
  have hret := B0.returns
  have hts := atoms_spec (ws := wsX8_layBook) B0.pre
  have hown : s.vm.findClass RX8 = some m.cls := findClass_of_methodNamed B0.named
  have hlocks := B0.notSynchronized
  have hK := hK0.1
  have hN := hK0.2
  subst hsz
  have hD := hD0.self (sz := s.heap.size)
  generalize hAe : va_A (lt_Md yI yC M i a) s.heap.size = A at hD ⊢
  have hA : ∀ q : Nat, s.heap.size ≤ q → A q := fun q h => by rw [← hAe]; exact Or.inr h
  have hS : va_S A s.heap s.heap [] := va_S.rf
  have hP : va_P D vwCl (lt_Md yI yC M i a) s.heap := hP
  have hD : va_D A (lt_Md yI yC M i a) := hD
  have hl := lv_entry ([.ref (M 0), .int p0, .int p1]) (n := 7) (Nat.le_of_ble_eq_true rfl)
  rw [lg_entry_eq]
  generalize (lg_sl ([.ref (M 0), .int p0, .int p1]) ++ List.replicate (7 - (lg_sl ([.ref (M 0), .int p0, .int p1])).length) Slot.unset).toArray = ls at hl ⊢
  have hl : lv_has ls 7 [(0, .ref (M 0)), (1, .int p0), (2, .int p1)] := hl
  refine lv_iload_n hx hb dX8_layBook_0 rfl (lv_at hl 1 rfl) ?_
  refine lv_iconst (v := 1) hx hb dX8_layBook_1 (by decide) ?_
  refine lv_bipush (v := 30) hx hb dX8_layBook_2 (by decide) ?_
  have hPc := hP.sub (ws' := ([] : va_W)) [] rfl
  refine lt_cR (va_runS (As := [.int p0, .int 1, .int 30]) (rest := []) ⟨hx, hb, hml, hown, hts⟩ (c_X8_in l D yI yC yO p0 1 30 ) (va_cwS 3 hts gX8_layBook_X8_in rfl rfl rfl (by decide +kernel) ⟨Nat.le_of_ble_eq_true rfl, Nat.le_of_ble_eq_true rfl⟩) (lt_pS hK0 hPc) rfl rfl hl.1 rfl (lv_room (Nat.le_of_ble_eq_true rfl)) dX8_layBook_4 ⟨Nat.zero_le _, Nat.zero_le _⟩) (fun r_4 e_r_4 => ?_)
  have hs := hs r_4 e_r_4
  refine lv_if_eq (tgt := 21) hx hb dX8_layBook_7 (by decide) (fun c_7 => ?_) (fun c_7 => ?_)
  · have hs := hs.1 c_7
    refine lv_bipush (v := (-2)) hx hb dX8_layBook_21 (by decide) ?_
    exact W.iret (v := (-2)) hx hb hret (fun t ht hW => ⟨⟨(-2), (i, a), rfl, (by subst e_r_4; exact (Eq.symm (Eq.trans (if_pos c_7) rfl))), by rw [ht]; exact hP, hD⟩, hS.F ht⟩) hS.2.2 dX8_layBook_23
  · have hs := hs.2 c_7
    refine lv_iload_n hx hb dX8_layBook_10 rfl (lv_at hl 2 rfl) ?_
    refine lv_iconst (v := 0) hx hb dX8_layBook_11 (by decide) ?_
    refine lv_sipush (v := 9999) hx hb dX8_layBook_12 (by decide) ?_
    have hPc := hP.sub (ws' := ([] : va_W)) [] rfl
    refine lt_cR (va_runS (As := [.int p1, .int 0, .int 9999]) (rest := []) ⟨hx, hb, hml, hown, hts⟩ (c_X8_in l D yI yC yO p1 0 9999 ) (va_cwS 3 hts gX8_layBook_X8_in rfl rfl rfl (by decide +kernel) ⟨Nat.le_of_ble_eq_true rfl, Nat.le_of_ble_eq_true rfl⟩) (lt_pS hK0 hPc) rfl rfl hl.1 rfl (lv_room (Nat.le_of_ble_eq_true rfl)) dX8_layBook_15 ⟨Nat.zero_le _, Nat.zero_le _⟩) (fun r_15 e_r_15 => ?_)
    have hs := hs r_15 e_r_15
    refine lv_if_ne (tgt := 24) hx hb dX8_layBook_18 (by decide) (fun c_18 => ?_) (fun c_18 => ?_)
    · have hs := hs.2 c_18
      refine lv_aload_n hx hb dX8_layBook_24 rfl (lv_at hl 0 rfl) ?_
      refine lv_aload_n hx hb dX8_layBook_25 rfl (lv_at hl 0 rfl) ?_
      refine va_get (D := D) (ci := 8) (v := .ref (M 1)) (C := RX8) (T := TX8) (N := 13) hx hb hts iw_X8_layBook_8 hown hK hP 0 rfl rfl 0 (by decide) (hts (.fieldLink RX8 7 "LeafTurnerModel" "now" "[I") (by decide +kernel)) (fun _ h9 => h9) rfl dX8_layBook_26 ?_
      have ho_29 := hs.1; have hs := hs.2
      have hPc := hP.sub (ws' := lt_Md yI yC M i a) [0, 1, 2, 3, 4, 5, 6, 7, 8] rfl
      have hDc := hD.sub (ws' := lt_Md yI yC M i a) [0, 1, 2, 3, 4, 5, 6, 7, 8] (by decide) rfl
      refine lt_cWv (wc := lt_Md yI yC M i a) (wr := []) (va_runV (As := [.ref (M 1)]) (rest := []) ⟨hx, hb, hml, hown, hts⟩ (c_X8_records l D yI yC yO M i a _ ho_29) (cwV 1 hts gX8_layBook_X8_records rfl rfl rfl (by decide +kernel) ⟨Nat.le_of_ble_eq_true rfl, Nat.le_of_ble_eq_true rfl⟩) (lt_qV hK0 hPc hDc (va_recv hK hPc (ci := 8) (q0 := 0) rfl rfl)) rfl rfl hl.1 rfl (lv_room (Nat.le_of_ble_eq_true rfl)) dX8_layBook_29 ⟨Nat.zero_le _, Nat.zero_le _⟩) hP hD hS hA [0, 1, 2, 3, 4, 5, 6, 7, 8] [] rfl rfl (by decide) (by decide) (fun x_29 e_x_29 H locs hP hD hS => ?_)
      have hP := hP.sub (ws' := lt_Md yI yC M x_29.1 x_29.2) [0, 1, 2, 3, 4, 5, 6, 7, 8] rfl
      have hD := hD.sub (ws' := lt_Md yI yC M x_29.1 x_29.2) [0, 1, 2, 3, 4, 5, 6, 7, 8] (by decide) rfl
      have hs := hs x_29 e_x_29
      refine lv_aload_n hx hb dX8_layBook_32 rfl (lv_at hl 0 rfl) ?_
      have ho_33 := hs.1; have hs := hs.2
      have hPc := hP.sub (ws' := lt_Md yI yC M x_29.1 x_29.2) [0, 1, 2, 3, 4, 5, 6, 7, 8] rfl
      have hDc := hD.sub (ws' := lt_Md yI yC M x_29.1 x_29.2) [0, 1, 2, 3, 4, 5, 6, 7, 8] (by decide) rfl
      refine lt_cWv (wc := lt_Md yI yC M x_29.1 x_29.2) (wr := []) (va_runV (As := []) (rest := []) ⟨hx, hb, hml, hown, hts⟩ (c_X8_clears l D yI yC yO M x_29.1 x_29.2 _ ho_33) (cwV 0 hts gX8_layBook_X8_clears rfl rfl rfl (by decide +kernel) ⟨Nat.le_of_ble_eq_true rfl, Nat.le_of_ble_eq_true rfl⟩) (lt_qV hK0 hPc hDc (va_recv hK hPc (ci := 8) (q0 := 0) rfl rfl)) rfl rfl hl.1 rfl (lv_room (Nat.le_of_ble_eq_true rfl)) dX8_layBook_33 ⟨Nat.zero_le _, Nat.zero_le _⟩) hP hD hS hA [0, 1, 2, 3, 4, 5, 6, 7, 8] [] rfl rfl (by decide) (by decide) (fun x_33 e_x_33 H locs hP hD hS => ?_)
      have hP := hP.sub (ws' := lt_Md yI yC M x_29.1 x_33) [0, 1, 2, 3, 4, 5, 6, 7, 8] rfl
      have hD := hD.sub (ws' := lt_Md yI yC M x_29.1 x_33) [0, 1, 2, 3, 4, 5, 6, 7, 8] (by decide) rfl
      have hs := hs x_33 e_x_33
      refine lv_iload_n hx hb dX8_layBook_36 rfl (lv_at hl 2 rfl) ?_
      refine lv_istore_n (lv' := [(3, .int p1), (0, .ref (M 0)), (1, .int p0), (2, .int p1)]) hx hb dX8_layBook_37 rfl hl (by decide) rfl (fun ls hl => ?_)
      refine lv_iconst (v := 0) hx hb dX8_layBook_38 (by decide) ?_
      refine lv_istore (lv' := [(4, .int 0), (3, .int p1), (0, .ref (M 0)), (1, .int p0), (2, .int p1)]) hx hb dX8_layBook_39 hl (by decide) rfl (fun ls hl => ?_)
      refine lv_iconst (v := 0) hx hb dX8_layBook_41 (by decide) ?_
      refine lv_istore (lv' := [(5, .int 0), (4, .int 0), (3, .int p1), (0, .ref (M 0)), (1, .int p0), (2, .int p1)]) hx hb dX8_layBook_42 hl (by decide) rfl (fun ls hl => ?_)
      refine lt_loop (σ := (Int32) × (Int32) × (Int32) × (Nat → Int32) × (Nat → Nat → Int32)) (fun fu (x : (Int32) × (Int32) × (Int32) × (Nat → Int32) × (Nat → Nat → Int32)) H locs ls => ∃ (v3 : Int32) (v4 : Int32) (v5 : Int32) (i0 : Nat → Int32) (a0 : Nat → Nat → Int32), x = (v3, v4, v5, i0, a0) ∧ lt_fu fu (p0) (v5) ∧ X8_layBook_L44 i a p0 p1 fu v3 v4 v5 i0 a0 = X8_layBook i a p0 p1 ∧ S_X8_layBook_L44 i a p0 p1 fu v3 v4 v5 i0 a0 ∧ va_P D vwCl (lt_Md yI yC M i0 a0) H ∧ va_D A (lt_Md yI yC M i0 a0) ∧ va_S A s.heap H locs ∧ lv_has ls 7 [(5, .int v5), (4, .int v4), (3, .int v3), (0, .ref (M 0)), (1, .int p0), (2, .int p1)]) ?_ ?_ (((p0 : Int32).toInt - (0 : Int32).toInt).toNat + 1) (p1, 0, 0, x_29.1, x_33) _ _ _ ⟨p1, 0, 0, x_29.1, x_33, rfl, lt_fuI _ _, (by subst e_x_33 e_x_29 e_r_15 e_r_4; exact (Eq.symm (Eq.trans (if_neg c_7) (Eq.trans (if_neg c_18) rfl)))), hs.1, hP, hD, hS, (lv_sub hl [0, 1, 2, 3, 4, 5] rfl)⟩
      · rintro x H locs ls ⟨_, _, _, _, _, -, hF, -⟩
        exact lt_fu0 hF
      · rintro fu ih x H locs ls ⟨v3, v4, v5, i0, a0, rfl, hF, hT, hs, hP, hD, hS, hl⟩
        refine lv_iload hx hb dX8_layBook_44 (lv_at hl 0 rfl) ?_
        refine lv_iload_n hx hb dX8_layBook_46 rfl (lv_at hl 4 rfl) ?_
        refine lv_icmp_ge (tgt := 127) hx hb dX8_layBook_47 (by decide) (fun c_47 => ?_) (fun c_47 => ?_)
        · have hs := hs.1 c_47
          refine lv_iload hx hb dX8_layBook_127 (lv_at hl 1 rfl) ?_
          exact W.iret (v := v4) hx hb hret (fun t ht hW => ⟨⟨v4, (i0, a0), rfl, (Eq.trans (Eq.symm (Eq.trans (if_pos c_47) rfl)) hT), by rw [ht]; exact hP, hD⟩, hS.F ht⟩) hS.2.2 dX8_layBook_129
        · have hs := hs.2 c_47
          refine lv_sipush (v := 421) hx hb dX8_layBook_50 (by decide) ?_
          refine lv_iload_n hx hb dX8_layBook_53 rfl (lv_at hl 2 rfl) ?_
          refine lv_imul hx hb dX8_layBook_54 ?_
          refine lv_sipush (v := 1663) hx hb dX8_layBook_55 (by decide) ?_
          refine lv_iadd hx hb dX8_layBook_58 ?_
          refine lv_sipush (v := 10000) hx hb dX8_layBook_59 (by decide) ?_
          refine lv_irem hx hb dX8_layBook_62 (by decide) ?_
          refine lv_topi (fun v_63 e_v_63 => ?_)
          have hs := hs v_63 e_v_63
          refine lv_istore_n (lv' := [(3, .int v_63), (5, .int v5), (4, .int v4), (0, .ref (M 0)), (1, .int p0), (2, .int p1)]) hx hb dX8_layBook_63 rfl hl (by decide) rfl (fun ls hl => ?_)
          refine lv_iload_n hx hb dX8_layBook_64 rfl (lv_at hl 0 rfl) ?_
          refine lv_bipush (v := 10) hx hb dX8_layBook_65 (by decide) ?_
          refine lv_idiv hx hb dX8_layBook_67 (by decide) ?_
          refine lv_bipush (v := 10) hx hb dX8_layBook_68 (by decide) ?_
          refine lv_irem hx hb dX8_layBook_70 (by decide) ?_
          refine lv_topi (fun v_71 e_v_71 => ?_)
          have hs := hs v_71 e_v_71
          refine lv_istore (lv' := [(6, .int v_71), (3, .int v_63), (5, .int v5), (4, .int v4), (0, .ref (M 0)), (1, .int p0), (2, .int p1)]) hx hb dX8_layBook_71 hl (by decide) rfl (fun ls hl => ?_)
          refine lv_aload_n hx hb dX8_layBook_73 rfl (lv_at hl 4 rfl) ?_
          refine lv_iconst (v := 1) hx hb dX8_layBook_74 (by decide) ?_
          refine lv_iload_n hx hb dX8_layBook_75 rfl (lv_at hl 1 rfl) ?_
          refine lv_iconst (v := 5) hx hb dX8_layBook_76 (by decide) ?_
          refine lv_irem hx hb dX8_layBook_77 (by decide) ?_
          refine lv_iadd hx hb dX8_layBook_78 ?_
          refine lv_iload hx hb dX8_layBook_79 (lv_at hl 0 rfl) ?_
          refine lv_bipush (v := 6) hx hb dX8_layBook_81 (by decide) ?_
          refine lv_icmp_ge (tgt := 90) hx hb dX8_layBook_83 (by decide) (fun c_83 => ?_) (fun c_83 => ?_)
          · have hs := hs.1 c_83
            refine lv_iload hx hb dX8_layBook_90 (lv_at hl 0 rfl) ?_
            refine lv_iload_n hx hb dX8_layBook_92 rfl (lv_at hl 1 rfl) ?_
            refine lv_bipush (v := 100) hx hb dX8_layBook_93 (by decide) ?_
            refine lv_idiv hx hb dX8_layBook_95 (by decide) ?_
            refine lv_bipush (v := 8) hx hb dX8_layBook_96 (by decide) ?_
            refine lv_irem hx hb dX8_layBook_98 (by decide) ?_
            refine lv_if_ne (tgt := 107) hx hb dX8_layBook_99 (by decide) (fun c_99 => ?_) (fun c_99 => ?_)
            · have hs := hs.2 c_99
              refine lv_iconst (v := 1) hx hb dX8_layBook_107 (by decide) ?_
              have ho_108 := hs.1; have hs := hs.2
              have hPc := hP.sub (ws' := lt_Md yI yC M i0 a0) [0, 1, 2, 3, 4, 5, 6, 7, 8] rfl
              have hDc := hD.sub (ws' := lt_Md yI yC M i0 a0) [0, 1, 2, 3, 4, 5, 6, 7, 8] (by decide) rfl
              refine lt_cWv (wc := lt_Md yI yC M i0 a0) (wr := []) (va_runV (As := [.int (1 + (v_63 - v_63 / 5 * 5)), .int v_71, .int 1]) (rest := []) ⟨hx, hb, hml, hown, hts⟩ (c_X8_adds l D yI yC yO M i0 a0 (1 + (v_63 - v_63 / 5 * 5)) v_71 1 _ ho_108) (cwV 3 hts gX8_layBook_X8_adds rfl rfl rfl (by decide +kernel) ⟨Nat.le_of_ble_eq_true rfl, Nat.le_of_ble_eq_true rfl⟩) (lt_qV hK0 hPc hDc (va_recv hK hPc (ci := 8) (q0 := 0) rfl rfl)) rfl rfl hl.1 rfl (lv_room (Nat.le_of_ble_eq_true rfl)) dX8_layBook_108 ⟨Nat.zero_le _, Nat.zero_le _⟩) hP hD hS hA [0, 1, 2, 3, 4, 5, 6, 7, 8] [] rfl rfl (by decide) (by decide) (fun x_108 e_x_108 H locs hP hD hS => ?_)
              have hP := hP.sub (ws' := lt_Md yI yC M i0 x_108) [0, 1, 2, 3, 4, 5, 6, 7, 8] rfl
              have hD := hD.sub (ws' := lt_Md yI yC M i0 x_108) [0, 1, 2, 3, 4, 5, 6, 7, 8] (by decide) rfl
              have hs := hs x_108 e_x_108
              refine lv_iload hx hb dX8_layBook_111 (lv_at hl 3 rfl) ?_
              refine lv_iconst (v := 1) hx hb dX8_layBook_113 (by decide) ?_
              refine lv_iload_n hx hb dX8_layBook_114 rfl (lv_at hl 1 rfl) ?_
              refine lv_iconst (v := 5) hx hb dX8_layBook_115 (by decide) ?_
              refine lv_irem hx hb dX8_layBook_116 (by decide) ?_
              refine lv_iadd hx hb dX8_layBook_117 ?_
              refine lv_iadd hx hb dX8_layBook_118 ?_
              refine lv_topi (fun v_119 e_v_119 => ?_)
              have hs := hs v_119 e_v_119
              refine lv_istore (lv' := [(4, .int v_119), (6, .int v_71), (3, .int v_63), (5, .int v5), (0, .ref (M 0)), (1, .int p0), (2, .int p1)]) hx hb dX8_layBook_119 hl (by decide) rfl (fun ls hl => ?_)
              refine lv_iinc (v := (v5 + 1)) (lv' := [(5, .int (v5 + 1)), (4, .int v_119), (6, .int v_71), (3, .int v_63), (0, .ref (M 0)), (1, .int p0), (2, .int p1)]) hx hb dX8_layBook_121 hl (k := 3) rfl (rfl) (by decide) rfl (fun ls hl => ?_)
              refine lv_goto (tgt := 44) hx hb dX8_layBook_124 (by decide) ?_
              exact ih (v_63, v_119, (v5 + 1), i0, x_108) _ _ _ ⟨v_63, v_119, (v5 + 1), i0, x_108, rfl, lt_fuS hF (lt_nle c_47), (by subst e_v_119 e_x_108 e_v_71 e_v_63; exact (Eq.trans (Eq.symm (Eq.trans (if_neg c_47) (Eq.trans (if_pos c_83) (Eq.trans (if_neg c_99) rfl)))) hT)), hs.1, hP, hD, hS, lv_sub hl [0, 1, 3, 4, 5, 6] rfl⟩
            · have hs := hs.1 c_99
              refine lv_bipush (v := (-5)) hx hb dX8_layBook_102 (by decide) ?_
              refine lv_goto (tgt := 108) hx hb dX8_layBook_104 (by decide) ?_
              have ho_108 := hs.1; have hs := hs.2
              have hPc := hP.sub (ws' := lt_Md yI yC M i0 a0) [0, 1, 2, 3, 4, 5, 6, 7, 8] rfl
              have hDc := hD.sub (ws' := lt_Md yI yC M i0 a0) [0, 1, 2, 3, 4, 5, 6, 7, 8] (by decide) rfl
              refine lt_cWv (wc := lt_Md yI yC M i0 a0) (wr := []) (va_runV (As := [.int (1 + (v_63 - v_63 / 5 * 5)), .int v_71, .int (-5)]) (rest := []) ⟨hx, hb, hml, hown, hts⟩ (c_X8_adds l D yI yC yO M i0 a0 (1 + (v_63 - v_63 / 5 * 5)) v_71 (-5) _ ho_108) (cwV 3 hts gX8_layBook_X8_adds rfl rfl rfl (by decide +kernel) ⟨Nat.le_of_ble_eq_true rfl, Nat.le_of_ble_eq_true rfl⟩) (lt_qV hK0 hPc hDc (va_recv hK hPc (ci := 8) (q0 := 0) rfl rfl)) rfl rfl hl.1 rfl (lv_room (Nat.le_of_ble_eq_true rfl)) dX8_layBook_108 ⟨Nat.zero_le _, Nat.zero_le _⟩) hP hD hS hA [0, 1, 2, 3, 4, 5, 6, 7, 8] [] rfl rfl (by decide) (by decide) (fun x_108 e_x_108 H locs hP hD hS => ?_)
              have hP := hP.sub (ws' := lt_Md yI yC M i0 x_108) [0, 1, 2, 3, 4, 5, 6, 7, 8] rfl
              have hD := hD.sub (ws' := lt_Md yI yC M i0 x_108) [0, 1, 2, 3, 4, 5, 6, 7, 8] (by decide) rfl
              have hs := hs x_108 e_x_108
              refine lv_iload hx hb dX8_layBook_111 (lv_at hl 3 rfl) ?_
              refine lv_iconst (v := 1) hx hb dX8_layBook_113 (by decide) ?_
              refine lv_iload_n hx hb dX8_layBook_114 rfl (lv_at hl 1 rfl) ?_
              refine lv_iconst (v := 5) hx hb dX8_layBook_115 (by decide) ?_
              refine lv_irem hx hb dX8_layBook_116 (by decide) ?_
              refine lv_iadd hx hb dX8_layBook_117 ?_
              refine lv_iadd hx hb dX8_layBook_118 ?_
              refine lv_topi (fun v_119 e_v_119 => ?_)
              have hs := hs v_119 e_v_119
              refine lv_istore (lv' := [(4, .int v_119), (6, .int v_71), (3, .int v_63), (5, .int v5), (0, .ref (M 0)), (1, .int p0), (2, .int p1)]) hx hb dX8_layBook_119 hl (by decide) rfl (fun ls hl => ?_)
              refine lv_iinc (v := (v5 + 1)) (lv' := [(5, .int (v5 + 1)), (4, .int v_119), (6, .int v_71), (3, .int v_63), (0, .ref (M 0)), (1, .int p0), (2, .int p1)]) hx hb dX8_layBook_121 hl (k := 3) rfl (rfl) (by decide) rfl (fun ls hl => ?_)
              refine lv_goto (tgt := 44) hx hb dX8_layBook_124 (by decide) ?_
              exact ih (v_63, v_119, (v5 + 1), i0, x_108) _ _ _ ⟨v_63, v_119, (v5 + 1), i0, x_108, rfl, lt_fuS hF (lt_nle c_47), (by subst e_v_119 e_x_108 e_v_71 e_v_63; exact (Eq.trans (Eq.symm (Eq.trans (if_neg c_47) (Eq.trans (if_pos c_83) (Eq.trans (if_pos c_99) rfl)))) hT)), hs.1, hP, hD, hS, lv_sub hl [0, 1, 3, 4, 5, 6] rfl⟩
          · have hs := hs.2 c_83
            refine lv_iconst (v := 0) hx hb dX8_layBook_86 (by decide) ?_
            refine lv_goto (tgt := 92) hx hb dX8_layBook_87 (by decide) ?_
            refine lv_iload_n hx hb dX8_layBook_92 rfl (lv_at hl 1 rfl) ?_
            refine lv_bipush (v := 100) hx hb dX8_layBook_93 (by decide) ?_
            refine lv_idiv hx hb dX8_layBook_95 (by decide) ?_
            refine lv_bipush (v := 8) hx hb dX8_layBook_96 (by decide) ?_
            refine lv_irem hx hb dX8_layBook_98 (by decide) ?_
            refine lv_if_ne (tgt := 107) hx hb dX8_layBook_99 (by decide) (fun c_99 => ?_) (fun c_99 => ?_)
            · have hs := hs.2 c_99
              refine lv_iconst (v := 1) hx hb dX8_layBook_107 (by decide) ?_
              have ho_108 := hs.1; have hs := hs.2
              have hPc := hP.sub (ws' := lt_Md yI yC M i0 a0) [0, 1, 2, 3, 4, 5, 6, 7, 8] rfl
              have hDc := hD.sub (ws' := lt_Md yI yC M i0 a0) [0, 1, 2, 3, 4, 5, 6, 7, 8] (by decide) rfl
              refine lt_cWv (wc := lt_Md yI yC M i0 a0) (wr := []) (va_runV (As := [.int (1 + (v_63 - v_63 / 5 * 5)), .int 0, .int 1]) (rest := []) ⟨hx, hb, hml, hown, hts⟩ (c_X8_adds l D yI yC yO M i0 a0 (1 + (v_63 - v_63 / 5 * 5)) 0 1 _ ho_108) (cwV 3 hts gX8_layBook_X8_adds rfl rfl rfl (by decide +kernel) ⟨Nat.le_of_ble_eq_true rfl, Nat.le_of_ble_eq_true rfl⟩) (lt_qV hK0 hPc hDc (va_recv hK hPc (ci := 8) (q0 := 0) rfl rfl)) rfl rfl hl.1 rfl (lv_room (Nat.le_of_ble_eq_true rfl)) dX8_layBook_108 ⟨Nat.zero_le _, Nat.zero_le _⟩) hP hD hS hA [0, 1, 2, 3, 4, 5, 6, 7, 8] [] rfl rfl (by decide) (by decide) (fun x_108 e_x_108 H locs hP hD hS => ?_)
              have hP := hP.sub (ws' := lt_Md yI yC M i0 x_108) [0, 1, 2, 3, 4, 5, 6, 7, 8] rfl
              have hD := hD.sub (ws' := lt_Md yI yC M i0 x_108) [0, 1, 2, 3, 4, 5, 6, 7, 8] (by decide) rfl
              have hs := hs x_108 e_x_108
              refine lv_iload hx hb dX8_layBook_111 (lv_at hl 3 rfl) ?_
              refine lv_iconst (v := 1) hx hb dX8_layBook_113 (by decide) ?_
              refine lv_iload_n hx hb dX8_layBook_114 rfl (lv_at hl 1 rfl) ?_
              refine lv_iconst (v := 5) hx hb dX8_layBook_115 (by decide) ?_
              refine lv_irem hx hb dX8_layBook_116 (by decide) ?_
              refine lv_iadd hx hb dX8_layBook_117 ?_
              refine lv_iadd hx hb dX8_layBook_118 ?_
              refine lv_topi (fun v_119 e_v_119 => ?_)
              have hs := hs v_119 e_v_119
              refine lv_istore (lv' := [(4, .int v_119), (6, .int v_71), (3, .int v_63), (5, .int v5), (0, .ref (M 0)), (1, .int p0), (2, .int p1)]) hx hb dX8_layBook_119 hl (by decide) rfl (fun ls hl => ?_)
              refine lv_iinc (v := (v5 + 1)) (lv' := [(5, .int (v5 + 1)), (4, .int v_119), (6, .int v_71), (3, .int v_63), (0, .ref (M 0)), (1, .int p0), (2, .int p1)]) hx hb dX8_layBook_121 hl (k := 3) rfl (rfl) (by decide) rfl (fun ls hl => ?_)
              refine lv_goto (tgt := 44) hx hb dX8_layBook_124 (by decide) ?_
              exact ih (v_63, v_119, (v5 + 1), i0, x_108) _ _ _ ⟨v_63, v_119, (v5 + 1), i0, x_108, rfl, lt_fuS hF (lt_nle c_47), (by subst e_v_119 e_x_108 e_v_71 e_v_63; exact (Eq.trans (Eq.symm (Eq.trans (if_neg c_47) (Eq.trans (if_neg c_83) (Eq.trans (if_neg c_99) rfl)))) hT)), hs.1, hP, hD, hS, lv_sub hl [0, 1, 3, 4, 5, 6] rfl⟩
            · have hs := hs.1 c_99
              refine lv_bipush (v := (-5)) hx hb dX8_layBook_102 (by decide) ?_
              refine lv_goto (tgt := 108) hx hb dX8_layBook_104 (by decide) ?_
              have ho_108 := hs.1; have hs := hs.2
              have hPc := hP.sub (ws' := lt_Md yI yC M i0 a0) [0, 1, 2, 3, 4, 5, 6, 7, 8] rfl
              have hDc := hD.sub (ws' := lt_Md yI yC M i0 a0) [0, 1, 2, 3, 4, 5, 6, 7, 8] (by decide) rfl
              refine lt_cWv (wc := lt_Md yI yC M i0 a0) (wr := []) (va_runV (As := [.int (1 + (v_63 - v_63 / 5 * 5)), .int 0, .int (-5)]) (rest := []) ⟨hx, hb, hml, hown, hts⟩ (c_X8_adds l D yI yC yO M i0 a0 (1 + (v_63 - v_63 / 5 * 5)) 0 (-5) _ ho_108) (cwV 3 hts gX8_layBook_X8_adds rfl rfl rfl (by decide +kernel) ⟨Nat.le_of_ble_eq_true rfl, Nat.le_of_ble_eq_true rfl⟩) (lt_qV hK0 hPc hDc (va_recv hK hPc (ci := 8) (q0 := 0) rfl rfl)) rfl rfl hl.1 rfl (lv_room (Nat.le_of_ble_eq_true rfl)) dX8_layBook_108 ⟨Nat.zero_le _, Nat.zero_le _⟩) hP hD hS hA [0, 1, 2, 3, 4, 5, 6, 7, 8] [] rfl rfl (by decide) (by decide) (fun x_108 e_x_108 H locs hP hD hS => ?_)
              have hP := hP.sub (ws' := lt_Md yI yC M i0 x_108) [0, 1, 2, 3, 4, 5, 6, 7, 8] rfl
              have hD := hD.sub (ws' := lt_Md yI yC M i0 x_108) [0, 1, 2, 3, 4, 5, 6, 7, 8] (by decide) rfl
              have hs := hs x_108 e_x_108
              refine lv_iload hx hb dX8_layBook_111 (lv_at hl 3 rfl) ?_
              refine lv_iconst (v := 1) hx hb dX8_layBook_113 (by decide) ?_
              refine lv_iload_n hx hb dX8_layBook_114 rfl (lv_at hl 1 rfl) ?_
              refine lv_iconst (v := 5) hx hb dX8_layBook_115 (by decide) ?_
              refine lv_irem hx hb dX8_layBook_116 (by decide) ?_
              refine lv_iadd hx hb dX8_layBook_117 ?_
              refine lv_iadd hx hb dX8_layBook_118 ?_
              refine lv_topi (fun v_119 e_v_119 => ?_)
              have hs := hs v_119 e_v_119
              refine lv_istore (lv' := [(4, .int v_119), (6, .int v_71), (3, .int v_63), (5, .int v5), (0, .ref (M 0)), (1, .int p0), (2, .int p1)]) hx hb dX8_layBook_119 hl (by decide) rfl (fun ls hl => ?_)
              refine lv_iinc (v := (v5 + 1)) (lv' := [(5, .int (v5 + 1)), (4, .int v_119), (6, .int v_71), (3, .int v_63), (0, .ref (M 0)), (1, .int p0), (2, .int p1)]) hx hb dX8_layBook_121 hl (k := 3) rfl (rfl) (by decide) rfl (fun ls hl => ?_)
              refine lv_goto (tgt := 44) hx hb dX8_layBook_124 (by decide) ?_
              exact ih (v_63, v_119, (v5 + 1), i0, x_108) _ _ _ ⟨v_63, v_119, (v5 + 1), i0, x_108, rfl, lt_fuS hF (lt_nle c_47), (by subst e_v_119 e_x_108 e_v_71 e_v_63; exact (Eq.trans (Eq.symm (Eq.trans (if_neg c_47) (Eq.trans (if_neg c_83) (Eq.trans (if_pos c_99) rfl)))) hT)), hs.1, hP, hD, hS, lv_sub hl [0, 1, 3, 4, 5, 6] rfl⟩
    · have hs := hs.1 c_18
      refine lv_bipush (v := (-2)) hx hb dX8_layBook_21 (by decide) ?_
      exact W.iret (v := (-2)) hx hb hret (fun t ht hW => ⟨⟨(-2), (i, a), rfl, (by subst e_r_15 e_r_4; exact (Eq.symm (Eq.trans (if_neg c_7) (Eq.trans (if_pos c_18) rfl)))), by rw [ht]; exact hP, hD⟩, hS.F ht⟩) hS.2.2 dX8_layBook_23

def X8_print (i : Nat → Int32) (a : Nat → Nat → Int32) (p0 : Int32) (p1 : Int32) : Int32 × ((Nat → Int32) × (Nat → Nat → Int32)) :=
  let r_2 := X8_isPage i a p0
  if r_2 = 0 then
    ((-1), (i, a))
  else
    if p1 = (-5) then
      let v_39 := (a 0) (72 + p0).toNatClampNeg
      if v_39 = p1 then
        ((-5), (i, a))
      else
        let x_53 := X8_records i a
        if v_39 = (-5) then
          (200, (x_53.1, (va_up x_53.2 0 (upd (x_53.2 0) (72 + p0).toNatClampNeg p1))))
        else
          (v_39, (x_53.1, (va_up x_53.2 0 (upd (x_53.2 0) (72 + p0).toNatClampNeg p1))))
    else
      let r_21 := X8_in p1 0 199
      if r_21 = 0 then
        ((-2), (i, a))
      else
        let v_39 := (a 0) (72 + p0).toNatClampNeg
        if v_39 = p1 then
          ((-5), (i, a))
        else
          let x_53 := X8_records i a
          if v_39 = (-5) then
            (200, (x_53.1, (va_up x_53.2 0 (upd (x_53.2 0) (72 + p0).toNatClampNeg p1))))
          else
            (v_39, (x_53.1, (va_up x_53.2 0 (upd (x_53.2 0) (72 + p0).toNatClampNeg p1))))
def S_X8_print (i : Nat → Int32) (a : Nat → Nat → Int32) (p0 : Int32) (p1 : Int32) : Prop :=
  (S_X8_isPage i a p0) ∧
  ∀ r_2, r_2 = X8_isPage i a p0 →
  (r_2 = 0 →
    True) ∧
  (¬ (r_2 = 0) →
    (p1 = (-5) →
      (vp_in (72 + p0) 532) ∧
      ∀ v_39, v_39 = (a 0) (72 + p0).toNatClampNeg →
      (v_39 = p1 →
        True) ∧
      (¬ (v_39 = p1) →
        (S_X8_records i a) ∧
        ∀ x_53, x_53 = X8_records i a →
        (vp_in (72 + p0) 532) ∧
        (v_39 = (-5) →
          True) ∧
        (¬ (v_39 = (-5)) →
          True))) ∧
    (¬ (p1 = (-5)) →
      ∀ r_21, r_21 = X8_in p1 0 199 →
      (r_21 = 0 →
        True) ∧
      (¬ (r_21 = 0) →
        (vp_in (72 + p0) 532) ∧
        ∀ v_39, v_39 = (a 0) (72 + p0).toNatClampNeg →
        (v_39 = p1 →
          True) ∧
        (¬ (v_39 = p1) →
          (S_X8_records i a) ∧
          ∀ x_53, x_53 = X8_records i a →
          (vp_in (72 + p0) 532) ∧
          (v_39 = (-5) →
            True) ∧
          (¬ (v_39 = (-5)) →
            True)))))
theorem iw_X8_print_8 : ∀ w ∈ wsX80, w ∈ wsX8_print := by decide +kernel
set_option maxHeartbeats 4000000 in
set_option maxRecDepth 100000 in
theorem c_X8_print (l : Launch) (D : va_G) (yI yC yO : ClassId) (M : Nat → Nat) (i : Nat → Int32) (a : Nat → Nat → Int32) (p0 : Int32) (p1 : Int32) (sz : Nat) (hs : S_X8_print i a p0 p1) : Met l yX8_print wsX8_print ({ frames := 2, cells := 0, slots := 0, locals := 60 }) (va_Pc [.ref (M 0), .int p0, .int p1] (lt_M D yI yC yO (lt_Md yI yC M i a) sz)) (lt_Qi D (X8_print i a p0 p1) (fun u => lt_Md yI yC M u.1 u.2) (va_A (lt_Md yI yC M i a) sz)) 0 0 (va_A (lt_Md yI yC M i a) sz) := by
  refine Met.ofW (cc := cX8_print) (maxL := 4) (ret := (some .int)) (by decide) rfl ?_
  intro p e s m args below meth c s₁ B0 hml hv
  obtain ⟨rfl, hsz, hP, hK0, hD0⟩ := hv
  have hx := B0.exec
  have hb := B0.bytes
  have hret := B0.returns
  have hts := atoms_spec (ws := wsX8_print) B0.pre
  have hown : s.vm.findClass RX8 = some m.cls := findClass_of_methodNamed B0.named
  have hlocks := B0.notSynchronized
  have hK := hK0.1
  have hN := hK0.2
  subst hsz
  have hD := hD0.self (sz := s.heap.size)
  generalize hAe : va_A (lt_Md yI yC M i a) s.heap.size = A at hD ⊢
  have hA : ∀ q : Nat, s.heap.size ≤ q → A q := fun q h => by rw [← hAe]; exact Or.inr h
  have hS : va_S A s.heap s.heap [] := va_S.rf
  have hP : va_P D vwCl (lt_Md yI yC M i a) s.heap := hP
  have hD : va_D A (lt_Md yI yC M i a) := hD
  have hl := lv_entry ([.ref (M 0), .int p0, .int p1]) (n := 4) (Nat.le_of_ble_eq_true rfl)
  rw [lg_entry_eq]
  generalize (lg_sl ([.ref (M 0), .int p0, .int p1]) ++ List.replicate (4 - (lg_sl ([.ref (M 0), .int p0, .int p1])).length) Slot.unset).toArray = ls at hl ⊢
  have hl : lv_has ls 4 [(0, .ref (M 0)), (1, .int p0), (2, .int p1)] := hl
  refine lv_aload_n hx hb dX8_print_0 rfl (lv_at hl 0 rfl) ?_
  refine lv_iload_n hx hb dX8_print_1 rfl (lv_at hl 1 rfl) ?_
  have ho_2 := hs.1; have hs := hs.2
  have hPc := hP.sub (ws' := lt_Md yI yC M i a) [0, 1, 2, 3, 4, 5, 6, 7, 8] rfl
  refine lt_cR (va_runV (As := [.int p0]) (rest := []) ⟨hx, hb, hml, hown, hts⟩ (c_X8_isPage l D yI yC yO M i a p0 ho_2) (cwV 1 hts gX8_print_X8_isPage rfl rfl rfl (by decide +kernel) ⟨Nat.le_of_ble_eq_true rfl, Nat.le_of_ble_eq_true rfl⟩) (lt_pV hK0 hPc (va_recv hK hPc (ci := 8) (q0 := 0) rfl rfl)) rfl rfl hl.1 rfl (lv_room (Nat.le_of_ble_eq_true rfl)) dX8_print_2 ⟨Nat.zero_le _, Nat.zero_le _⟩) (fun r_2 e_r_2 => ?_)
  have hs := hs r_2 e_r_2
  refine lv_if_ne (tgt := 10) hx hb dX8_print_5 (by decide) (fun c_5 => ?_) (fun c_5 => ?_)
  · have hs := hs.2 c_5
    refine lv_iload_n hx hb dX8_print_10 rfl (lv_at hl 2 rfl) ?_
    refine lv_bipush (v := (-5)) hx hb dX8_print_11 (by decide) ?_
    refine lv_icmp_eq (tgt := 30) hx hb dX8_print_13 (by decide) (fun c_13 => ?_) (fun c_13 => ?_)
    · have hs := hs.1 c_13
      refine lv_aload_n hx hb dX8_print_30 rfl (lv_at hl 0 rfl) ?_
      refine va_get (D := D) (ci := 8) (v := .ref (M 1)) (C := RX8) (T := TX8) (N := 13) hx hb hts iw_X8_print_8 hown hK hP 0 rfl rfl 0 (by decide) (hts (.fieldLink RX8 7 "LeafTurnerModel" "now" "[I") (by decide +kernel)) (fun _ h9 => h9) rfl dX8_print_31 ?_
      refine lv_bipush (v := 72) hx hb dX8_print_34 (by decide) ?_
      refine lv_iload_n hx hb dX8_print_36 rfl (lv_at hl 1 rfl) ?_
      refine lv_iadd hx hb dX8_print_37 ?_
      have ho_38 := hs.1; have hs := hs.2
      refine va_iald hx hb hK hP 1 0 rfl rfl (i := (72 + p0)) (ho_38) dX8_print_38 ?_
      refine lv_topi (fun v_39 e_v_39 => ?_)
      have hs := hs v_39 e_v_39
      refine lv_istore_n (lv' := [(3, .int v_39), (0, .ref (M 0)), (1, .int p0), (2, .int p1)]) hx hb dX8_print_39 rfl hl (by decide) rfl (fun ls hl => ?_)
      refine lv_iload_n hx hb dX8_print_40 rfl (lv_at hl 0 rfl) ?_
      refine lv_iload_n hx hb dX8_print_41 rfl (lv_at hl 3 rfl) ?_
      refine lv_icmp_ne (tgt := 48) hx hb dX8_print_42 (by decide) (fun c_42 => ?_) (fun c_42 => ?_)
      · have hs := hs.2 c_42
        refine lv_aload_n hx hb dX8_print_48 rfl (lv_at hl 1 rfl) ?_
        refine lv_aload_n hx hb dX8_print_49 rfl (lv_at hl 1 rfl) ?_
        refine va_get (D := D) (ci := 8) (v := .ref (M 1)) (C := RX8) (T := TX8) (N := 13) hx hb hts iw_X8_print_8 hown hK hP 0 rfl rfl 0 (by decide) (hts (.fieldLink RX8 7 "LeafTurnerModel" "now" "[I") (by decide +kernel)) (fun _ h9 => h9) rfl dX8_print_50 ?_
        have ho_53 := hs.1; have hs := hs.2
        have hPc := hP.sub (ws' := lt_Md yI yC M i a) [0, 1, 2, 3, 4, 5, 6, 7, 8] rfl
        have hDc := hD.sub (ws' := lt_Md yI yC M i a) [0, 1, 2, 3, 4, 5, 6, 7, 8] (by decide) rfl
        refine lt_cWv (wc := lt_Md yI yC M i a) (wr := []) (va_runV (As := [.ref (M 1)]) (rest := []) ⟨hx, hb, hml, hown, hts⟩ (c_X8_records l D yI yC yO M i a _ ho_53) (cwV 1 hts gX8_print_X8_records rfl rfl rfl (by decide +kernel) ⟨Nat.le_of_ble_eq_true rfl, Nat.le_of_ble_eq_true rfl⟩) (lt_qV hK0 hPc hDc (va_recv hK hPc (ci := 8) (q0 := 0) rfl rfl)) rfl rfl hl.1 rfl (lv_room (Nat.le_of_ble_eq_true rfl)) dX8_print_53 ⟨Nat.zero_le _, Nat.zero_le _⟩) hP hD hS hA [0, 1, 2, 3, 4, 5, 6, 7, 8] [] rfl rfl (by decide) (by decide) (fun x_53 e_x_53 H locs hP hD hS => ?_)
        have hP := hP.sub (ws' := lt_Md yI yC M x_53.1 x_53.2) [0, 1, 2, 3, 4, 5, 6, 7, 8] rfl
        have hD := hD.sub (ws' := lt_Md yI yC M x_53.1 x_53.2) [0, 1, 2, 3, 4, 5, 6, 7, 8] (by decide) rfl
        have hs := hs x_53 e_x_53
        refine lv_aload_n hx hb dX8_print_56 rfl (lv_at hl 1 rfl) ?_
        refine va_get (D := D) (ci := 8) (v := .ref (M 1)) (C := RX8) (T := TX8) (N := 13) hx hb hts iw_X8_print_8 hown hK hP 0 rfl rfl 0 (by decide) (hts (.fieldLink RX8 7 "LeafTurnerModel" "now" "[I") (by decide +kernel)) (fun _ h9 => h9) rfl dX8_print_57 ?_
        refine lv_bipush (v := 72) hx hb dX8_print_60 (by decide) ?_
        refine lv_iload_n hx hb dX8_print_62 rfl (lv_at hl 2 rfl) ?_
        refine lv_iadd hx hb dX8_print_63 ?_
        refine lv_iload_n hx hb dX8_print_64 rfl (lv_at hl 3 rfl) ?_
        have ho_65 := hs.1; have hs := hs.2
        refine va_iast hx hb hK hP hD hS 1 0 rfl rfl (i := (72 + p0)) (x := p1) (ho_65) dX8_print_65 (fun H locs hP hD hS => ?_)
        have hP : va_P D vwCl (lt_Md yI yC M x_53.1 (va_up x_53.2 0 (upd (x_53.2 0) (72 + p0).toNatClampNeg p1))) H := hP
        have hD : va_D A (lt_Md yI yC M x_53.1 (va_up x_53.2 0 (upd (x_53.2 0) (72 + p0).toNatClampNeg p1))) := hD
        refine lv_iload_n hx hb dX8_print_66 rfl (lv_at hl 0 rfl) ?_
        refine lv_bipush (v := (-5)) hx hb dX8_print_67 (by decide) ?_
        refine lv_icmp_ne (tgt := 78) hx hb dX8_print_69 (by decide) (fun c_69 => ?_) (fun c_69 => ?_)
        · have hs := hs.2 c_69
          refine lv_iload_n hx hb dX8_print_78 rfl (lv_at hl 0 rfl) ?_
          exact W.iret (v := v_39) hx hb hret (fun t ht hW => ⟨⟨v_39, (x_53.1, (va_up x_53.2 0 (upd (x_53.2 0) (72 + p0).toNatClampNeg p1))), rfl, (by subst e_x_53 e_v_39 e_r_2; exact (Eq.symm (Eq.trans (if_neg c_5) (Eq.trans (if_pos c_13) (Eq.trans (if_neg c_42) (Eq.trans (if_neg c_69) rfl)))))), by rw [ht]; exact hP, hD⟩, hS.F ht⟩) hS.2.2 dX8_print_79
        · have hs := hs.1 c_69
          refine lv_sipush (v := 200) hx hb dX8_print_72 (by decide) ?_
          refine lv_goto (tgt := 79) hx hb dX8_print_75 (by decide) ?_
          exact W.iret (v := 200) hx hb hret (fun t ht hW => ⟨⟨200, (x_53.1, (va_up x_53.2 0 (upd (x_53.2 0) (72 + p0).toNatClampNeg p1))), rfl, (by subst e_x_53 e_v_39 e_r_2; exact (Eq.symm (Eq.trans (if_neg c_5) (Eq.trans (if_pos c_13) (Eq.trans (if_neg c_42) (Eq.trans (if_pos c_69) rfl)))))), by rw [ht]; exact hP, hD⟩, hS.F ht⟩) hS.2.2 dX8_print_79
      · have hs := hs.1 c_42
        refine lv_bipush (v := (-5)) hx hb dX8_print_45 (by decide) ?_
        exact W.iret (v := (-5)) hx hb hret (fun t ht hW => ⟨⟨(-5), (i, a), rfl, (by subst e_v_39 e_r_2; exact (Eq.symm (Eq.trans (if_neg c_5) (Eq.trans (if_pos c_13) (Eq.trans (if_pos c_42) rfl))))), by rw [ht]; exact hP, hD⟩, hS.F ht⟩) hS.2.2 dX8_print_47
    · have hs := hs.2 c_13
      refine lv_iload_n hx hb dX8_print_16 rfl (lv_at hl 2 rfl) ?_
      refine lv_iconst (v := 0) hx hb dX8_print_17 (by decide) ?_
      refine lv_sipush (v := 199) hx hb dX8_print_18 (by decide) ?_
      have hPc := hP.sub (ws' := ([] : va_W)) [] rfl
      refine lt_cR (va_runS (As := [.int p1, .int 0, .int 199]) (rest := []) ⟨hx, hb, hml, hown, hts⟩ (c_X8_in l D yI yC yO p1 0 199 ) (va_cwS 3 hts gX8_print_X8_in rfl rfl rfl (by decide +kernel) ⟨Nat.le_of_ble_eq_true rfl, Nat.le_of_ble_eq_true rfl⟩) (lt_pS hK0 hPc) rfl rfl hl.1 rfl (lv_room (Nat.le_of_ble_eq_true rfl)) dX8_print_21 ⟨Nat.zero_le _, Nat.zero_le _⟩) (fun r_21 e_r_21 => ?_)
      have hs := hs r_21 e_r_21
      refine lv_if_ne (tgt := 30) hx hb dX8_print_24 (by decide) (fun c_24 => ?_) (fun c_24 => ?_)
      · have hs := hs.2 c_24
        refine lv_aload_n hx hb dX8_print_30 rfl (lv_at hl 0 rfl) ?_
        refine va_get (D := D) (ci := 8) (v := .ref (M 1)) (C := RX8) (T := TX8) (N := 13) hx hb hts iw_X8_print_8 hown hK hP 0 rfl rfl 0 (by decide) (hts (.fieldLink RX8 7 "LeafTurnerModel" "now" "[I") (by decide +kernel)) (fun _ h9 => h9) rfl dX8_print_31 ?_
        refine lv_bipush (v := 72) hx hb dX8_print_34 (by decide) ?_
        refine lv_iload_n hx hb dX8_print_36 rfl (lv_at hl 1 rfl) ?_
        refine lv_iadd hx hb dX8_print_37 ?_
        have ho_38 := hs.1; have hs := hs.2
        refine va_iald hx hb hK hP 1 0 rfl rfl (i := (72 + p0)) (ho_38) dX8_print_38 ?_
        refine lv_topi (fun v_39 e_v_39 => ?_)
        have hs := hs v_39 e_v_39
        refine lv_istore_n (lv' := [(3, .int v_39), (0, .ref (M 0)), (1, .int p0), (2, .int p1)]) hx hb dX8_print_39 rfl hl (by decide) rfl (fun ls hl => ?_)
        refine lv_iload_n hx hb dX8_print_40 rfl (lv_at hl 0 rfl) ?_
        refine lv_iload_n hx hb dX8_print_41 rfl (lv_at hl 3 rfl) ?_
        refine lv_icmp_ne (tgt := 48) hx hb dX8_print_42 (by decide) (fun c_42 => ?_) (fun c_42 => ?_)
        · have hs := hs.2 c_42
          refine lv_aload_n hx hb dX8_print_48 rfl (lv_at hl 1 rfl) ?_
          refine lv_aload_n hx hb dX8_print_49 rfl (lv_at hl 1 rfl) ?_
          refine va_get (D := D) (ci := 8) (v := .ref (M 1)) (C := RX8) (T := TX8) (N := 13) hx hb hts iw_X8_print_8 hown hK hP 0 rfl rfl 0 (by decide) (hts (.fieldLink RX8 7 "LeafTurnerModel" "now" "[I") (by decide +kernel)) (fun _ h9 => h9) rfl dX8_print_50 ?_
          have ho_53 := hs.1; have hs := hs.2
          have hPc := hP.sub (ws' := lt_Md yI yC M i a) [0, 1, 2, 3, 4, 5, 6, 7, 8] rfl
          have hDc := hD.sub (ws' := lt_Md yI yC M i a) [0, 1, 2, 3, 4, 5, 6, 7, 8] (by decide) rfl
          refine lt_cWv (wc := lt_Md yI yC M i a) (wr := []) (va_runV (As := [.ref (M 1)]) (rest := []) ⟨hx, hb, hml, hown, hts⟩ (c_X8_records l D yI yC yO M i a _ ho_53) (cwV 1 hts gX8_print_X8_records rfl rfl rfl (by decide +kernel) ⟨Nat.le_of_ble_eq_true rfl, Nat.le_of_ble_eq_true rfl⟩) (lt_qV hK0 hPc hDc (va_recv hK hPc (ci := 8) (q0 := 0) rfl rfl)) rfl rfl hl.1 rfl (lv_room (Nat.le_of_ble_eq_true rfl)) dX8_print_53 ⟨Nat.zero_le _, Nat.zero_le _⟩) hP hD hS hA [0, 1, 2, 3, 4, 5, 6, 7, 8] [] rfl rfl (by decide) (by decide) (fun x_53 e_x_53 H locs hP hD hS => ?_)
          have hP := hP.sub (ws' := lt_Md yI yC M x_53.1 x_53.2) [0, 1, 2, 3, 4, 5, 6, 7, 8] rfl
          have hD := hD.sub (ws' := lt_Md yI yC M x_53.1 x_53.2) [0, 1, 2, 3, 4, 5, 6, 7, 8] (by decide) rfl
          have hs := hs x_53 e_x_53
          refine lv_aload_n hx hb dX8_print_56 rfl (lv_at hl 1 rfl) ?_
          refine va_get (D := D) (ci := 8) (v := .ref (M 1)) (C := RX8) (T := TX8) (N := 13) hx hb hts iw_X8_print_8 hown hK hP 0 rfl rfl 0 (by decide) (hts (.fieldLink RX8 7 "LeafTurnerModel" "now" "[I") (by decide +kernel)) (fun _ h9 => h9) rfl dX8_print_57 ?_
          refine lv_bipush (v := 72) hx hb dX8_print_60 (by decide) ?_
          refine lv_iload_n hx hb dX8_print_62 rfl (lv_at hl 2 rfl) ?_
          refine lv_iadd hx hb dX8_print_63 ?_
          refine lv_iload_n hx hb dX8_print_64 rfl (lv_at hl 3 rfl) ?_
          have ho_65 := hs.1; have hs := hs.2
          refine va_iast hx hb hK hP hD hS 1 0 rfl rfl (i := (72 + p0)) (x := p1) (ho_65) dX8_print_65 (fun H locs hP hD hS => ?_)
          have hP : va_P D vwCl (lt_Md yI yC M x_53.1 (va_up x_53.2 0 (upd (x_53.2 0) (72 + p0).toNatClampNeg p1))) H := hP
          have hD : va_D A (lt_Md yI yC M x_53.1 (va_up x_53.2 0 (upd (x_53.2 0) (72 + p0).toNatClampNeg p1))) := hD
          refine lv_iload_n hx hb dX8_print_66 rfl (lv_at hl 0 rfl) ?_
          refine lv_bipush (v := (-5)) hx hb dX8_print_67 (by decide) ?_
          refine lv_icmp_ne (tgt := 78) hx hb dX8_print_69 (by decide) (fun c_69 => ?_) (fun c_69 => ?_)
          · have hs := hs.2 c_69
            refine lv_iload_n hx hb dX8_print_78 rfl (lv_at hl 0 rfl) ?_
            exact W.iret (v := v_39) hx hb hret (fun t ht hW => ⟨⟨v_39, (x_53.1, (va_up x_53.2 0 (upd (x_53.2 0) (72 + p0).toNatClampNeg p1))), rfl, (by subst e_x_53 e_v_39 e_r_21 e_r_2; exact (Eq.symm (Eq.trans (if_neg c_5) (Eq.trans (if_neg c_13) (Eq.trans (if_neg c_24) (Eq.trans (if_neg c_42) (Eq.trans (if_neg c_69) rfl))))))), by rw [ht]; exact hP, hD⟩, hS.F ht⟩) hS.2.2 dX8_print_79
          · have hs := hs.1 c_69
            refine lv_sipush (v := 200) hx hb dX8_print_72 (by decide) ?_
            refine lv_goto (tgt := 79) hx hb dX8_print_75 (by decide) ?_
            exact W.iret (v := 200) hx hb hret (fun t ht hW => ⟨⟨200, (x_53.1, (va_up x_53.2 0 (upd (x_53.2 0) (72 + p0).toNatClampNeg p1))), rfl, (by subst e_x_53 e_v_39 e_r_21 e_r_2; exact (Eq.symm (Eq.trans (if_neg c_5) (Eq.trans (if_neg c_13) (Eq.trans (if_neg c_24) (Eq.trans (if_neg c_42) (Eq.trans (if_pos c_69) rfl))))))), by rw [ht]; exact hP, hD⟩, hS.F ht⟩) hS.2.2 dX8_print_79
        · have hs := hs.1 c_42
          refine lv_bipush (v := (-5)) hx hb dX8_print_45 (by decide) ?_
          exact W.iret (v := (-5)) hx hb hret (fun t ht hW => ⟨⟨(-5), (i, a), rfl, (by subst e_v_39 e_r_21 e_r_2; exact (Eq.symm (Eq.trans (if_neg c_5) (Eq.trans (if_neg c_13) (Eq.trans (if_neg c_24) (Eq.trans (if_pos c_42) rfl)))))), by rw [ht]; exact hP, hD⟩, hS.F ht⟩) hS.2.2 dX8_print_47
      · have hs := hs.1 c_24
        refine lv_bipush (v := (-2)) hx hb dX8_print_27 (by decide) ?_
        exact W.iret (v := (-2)) hx hb hret (fun t ht hW => ⟨⟨(-2), (i, a), rfl, (by subst e_r_21 e_r_2; exact (Eq.symm (Eq.trans (if_neg c_5) (Eq.trans (if_neg c_13) (Eq.trans (if_pos c_24) rfl))))), by rw [ht]; exact hP, hD⟩, hS.F ht⟩) hS.2.2 dX8_print_29
  · have hs := hs.1 c_5
    refine lv_iconst (v := (-1)) hx hb dX8_print_8 (by decide) ?_
    exact W.iret (v := (-1)) hx hb hret (fun t ht hW => ⟨⟨(-1), (i, a), rfl, (by subst e_r_2; exact (Eq.symm (Eq.trans (if_pos c_5) rfl))), by rw [ht]; exact hP, hD⟩, hS.F ht⟩) hS.2.2 dX8_print_9

def X8_turn (i : Nat → Int32) (a : Nat → Nat → Int32) : Int32 × ((Nat → Int32) × (Nat → Nat → Int32)) :=
  let r_1 := X8_isRight i a
  if r_1 = 0 then
    ((-4), (i, a))
  else
    let x_15 := X8_records i a
    let x_22 := X8_turns (x_15.2 0)
    (x_22.1, (x_15.1, (va_up x_15.2 0 x_22.2)))
def S_X8_turn (i : Nat → Int32) (a : Nat → Nat → Int32) : Prop :=
  (S_X8_isRight i a) ∧
  ∀ r_1, r_1 = X8_isRight i a →
  (r_1 = 0 →
    True) ∧
  (¬ (r_1 = 0) →
    (S_X8_records i a) ∧
    ∀ x_15, x_15 = X8_records i a →
    (S_X8_turns (x_15.2 0)) ∧
    ∀ x_22, x_22 = X8_turns (x_15.2 0) →
    True)
theorem iw_X8_turn_8 : ∀ w ∈ wsX80, w ∈ wsX8_turn := by decide +kernel
set_option maxHeartbeats 4000000 in
set_option maxRecDepth 100000 in
theorem c_X8_turn (l : Launch) (D : va_G) (yI yC yO : ClassId) (M : Nat → Nat) (i : Nat → Int32) (a : Nat → Nat → Int32) (sz : Nat) (hs : S_X8_turn i a) : Met l yX8_turn wsX8_turn ({ frames := 2, cells := 0, slots := 0, locals := 60 }) (va_Pc [.ref (M 0)] (lt_M D yI yC yO (lt_Md yI yC M i a) sz)) (lt_Qi D (X8_turn i a) (fun u => lt_Md yI yC M u.1 u.2) (va_A (lt_Md yI yC M i a) sz)) 0 0 (va_A (lt_Md yI yC M i a) sz) := by
  refine Met.ofW (cc := cX8_turn) (maxL := 1) (ret := (some .int)) (by decide) rfl ?_
  intro p e s m args below meth c s₁ B0 hml hv
  obtain ⟨rfl, hsz, hP, hK0, hD0⟩ := hv
  have hx := B0.exec
  have hb := B0.bytes
  have hret := B0.returns
  have hts := atoms_spec (ws := wsX8_turn) B0.pre
  have hown : s.vm.findClass RX8 = some m.cls := findClass_of_methodNamed B0.named
  have hlocks := B0.notSynchronized
  have hK := hK0.1
  have hN := hK0.2
  subst hsz
  have hD := hD0.self (sz := s.heap.size)
  generalize hAe : va_A (lt_Md yI yC M i a) s.heap.size = A at hD ⊢
  have hA : ∀ q : Nat, s.heap.size ≤ q → A q := fun q h => by rw [← hAe]; exact Or.inr h
  have hS : va_S A s.heap s.heap [] := va_S.rf
  have hP : va_P D vwCl (lt_Md yI yC M i a) s.heap := hP
  have hD : va_D A (lt_Md yI yC M i a) := hD
  have hl := lv_entry ([.ref (M 0)]) (n := 1) (Nat.le_of_ble_eq_true rfl)
  rw [lg_entry_eq]
  generalize (lg_sl ([.ref (M 0)]) ++ List.replicate (1 - (lg_sl ([.ref (M 0)])).length) Slot.unset).toArray = ls at hl ⊢
  have hl : lv_has ls 1 [(0, .ref (M 0))] := hl
  refine lv_aload_n hx hb dX8_turn_0 rfl (lv_at hl 0 rfl) ?_
  have ho_1 := hs.1; have hs := hs.2
  have hPc := hP.sub (ws' := lt_Md yI yC M i a) [0, 1, 2, 3, 4, 5, 6, 7, 8] rfl
  refine lt_cR (va_runV (As := []) (rest := []) ⟨hx, hb, hml, hown, hts⟩ (c_X8_isRight l D yI yC yO M i a ho_1) (cwV 0 hts gX8_turn_X8_isRight rfl rfl rfl (by decide +kernel) ⟨Nat.le_of_ble_eq_true rfl, Nat.le_of_ble_eq_true rfl⟩) (lt_pV hK0 hPc (va_recv hK hPc (ci := 8) (q0 := 0) rfl rfl)) rfl rfl hl.1 rfl (lv_room (Nat.le_of_ble_eq_true rfl)) dX8_turn_1 ⟨Nat.zero_le _, Nat.zero_le _⟩) (fun r_1 e_r_1 => ?_)
  have hs := hs r_1 e_r_1
  refine lv_if_ne (tgt := 10) hx hb dX8_turn_4 (by decide) (fun c_4 => ?_) (fun c_4 => ?_)
  · have hs := hs.2 c_4
    refine lv_aload_n hx hb dX8_turn_10 rfl (lv_at hl 0 rfl) ?_
    refine lv_aload_n hx hb dX8_turn_11 rfl (lv_at hl 0 rfl) ?_
    refine va_get (D := D) (ci := 8) (v := .ref (M 1)) (C := RX8) (T := TX8) (N := 13) hx hb hts iw_X8_turn_8 hown hK hP 0 rfl rfl 0 (by decide) (hts (.fieldLink RX8 7 "LeafTurnerModel" "now" "[I") (by decide +kernel)) (fun _ h9 => h9) rfl dX8_turn_12 ?_
    have ho_15 := hs.1; have hs := hs.2
    have hPc := hP.sub (ws' := lt_Md yI yC M i a) [0, 1, 2, 3, 4, 5, 6, 7, 8] rfl
    have hDc := hD.sub (ws' := lt_Md yI yC M i a) [0, 1, 2, 3, 4, 5, 6, 7, 8] (by decide) rfl
    refine lt_cWv (wc := lt_Md yI yC M i a) (wr := []) (va_runV (As := [.ref (M 1)]) (rest := []) ⟨hx, hb, hml, hown, hts⟩ (c_X8_records l D yI yC yO M i a _ ho_15) (cwV 1 hts gX8_turn_X8_records rfl rfl rfl (by decide +kernel) ⟨Nat.le_of_ble_eq_true rfl, Nat.le_of_ble_eq_true rfl⟩) (lt_qV hK0 hPc hDc (va_recv hK hPc (ci := 8) (q0 := 0) rfl rfl)) rfl rfl hl.1 rfl (lv_room (Nat.le_of_ble_eq_true rfl)) dX8_turn_15 ⟨Nat.zero_le _, Nat.zero_le _⟩) hP hD hS hA [0, 1, 2, 3, 4, 5, 6, 7, 8] [] rfl rfl (by decide) (by decide) (fun x_15 e_x_15 H locs hP hD hS => ?_)
    have hP := hP.sub (ws' := lt_Md yI yC M x_15.1 x_15.2) [0, 1, 2, 3, 4, 5, 6, 7, 8] rfl
    have hD := hD.sub (ws' := lt_Md yI yC M x_15.1 x_15.2) [0, 1, 2, 3, 4, 5, 6, 7, 8] (by decide) rfl
    have hs := hs x_15 e_x_15
    refine lv_aload_n hx hb dX8_turn_18 rfl (lv_at hl 0 rfl) ?_
    refine va_get (D := D) (ci := 8) (v := .ref (M 1)) (C := RX8) (T := TX8) (N := 13) hx hb hts iw_X8_turn_8 hown hK hP 0 rfl rfl 0 (by decide) (hts (.fieldLink RX8 7 "LeafTurnerModel" "now" "[I") (by decide +kernel)) (fun _ h9 => h9) rfl dX8_turn_19 ?_
    have ho_22 := hs.1; have hs := hs.2
    have hPc := hP.sub (ws' := lt_Ro yI (M 1) 532 (x_15.2 0)) [1] rfl
    have hDc := hD.sub (ws' := lt_Ro yI (M 1) 532 (x_15.2 0)) [1] (by decide) rfl
    refine lt_cWi (wc := lt_Ro yI (M 1) 532 (x_15.2 0)) (wr := [(M 0, .inr (8, [.ref (M 1), .ref (M 2), .ref (M 3), .int (x_15.1 0), .ref (M 4), .int (x_15.1 1), .ref (M 5), .int (x_15.1 2), .ref (M 6), .ref (M 7), .int (x_15.1 3), .ref (M 8), .int (x_15.1 4)])), (M 2, .inl (yI, 532, .inl (x_15.2 1))), (M 3, .inl (yI, 2128, .inl (x_15.2 2))), (M 4, .inl (yI, 532, .inl (x_15.2 3))), (M 5, .inl (yC, 60, .inl (x_15.2 4))), (M 6, .inl (yI, 80, .inl (x_15.2 5))), (M 7, .inl (yI, 60, .inl (x_15.2 6))), (M 8, .inl (yI, 93, .inl (x_15.2 7)))]) (va_runS (As := [.ref (M 1)]) (rest := []) ⟨hx, hb, hml, hown, hts⟩ (c_X8_turns l D yI yC yO (M 1) (x_15.2 0) _ ho_22) (va_cwS 1 hts gX8_turn_X8_turns rfl rfl rfl (by decide +kernel) ⟨Nat.le_of_ble_eq_true rfl, Nat.le_of_ble_eq_true rfl⟩) (lt_qS hK0 hPc hDc) rfl rfl hl.1 rfl (lv_room (Nat.le_of_ble_eq_true rfl)) dX8_turn_22 ⟨Nat.zero_le _, Nat.zero_le _⟩) hP hD hS hA [1] [0, 2, 3, 4, 5, 6, 7, 8] rfl rfl (by decide) (by decide) (fun x_22 e_x_22 H locs hP hD hS => ?_)
    have hP := hP.sub (ws' := lt_Md yI yC M x_15.1 (va_up x_15.2 0 x_22.2)) [0, 8, 1, 2, 3, 4, 5, 6, 7] rfl
    have hD := hD.sub (ws' := lt_Md yI yC M x_15.1 (va_up x_15.2 0 x_22.2)) [0, 8, 1, 2, 3, 4, 5, 6, 7] (by decide) rfl
    have hs := hs x_22 e_x_22
    exact W.iret (v := x_22.1) hx hb hret (fun t ht hW => ⟨⟨x_22.1, (x_15.1, (va_up x_15.2 0 x_22.2)), rfl, (by subst e_x_22 e_x_15 e_r_1; exact (Eq.symm (Eq.trans (if_neg c_4) rfl))), by rw [ht]; exact hP, hD⟩, hS.F ht⟩) hS.2.2 dX8_turn_25
  · have hs := hs.1 c_4
    refine lv_bipush (v := (-4)) hx hb dX8_turn_7 (by decide) ?_
    exact W.iret (v := (-4)) hx hb hret (fun t ht hW => ⟨⟨(-4), (i, a), rfl, (by subst e_r_1; exact (Eq.symm (Eq.trans (if_pos c_4) rfl))), by rw [ht]; exact hP, hD⟩, hS.F ht⟩) hS.2.2 dX8_turn_9

def X8_turnBack (i : Nat → Int32) (a : Nat → Nat → Int32) : Int32 × ((Nat → Int32) × (Nat → Nat → Int32)) :=
  if ((a 0) 1) = 0 then
    ((-4), (i, a))
  else
    let x_17 := X8_records i a
    ((((x_17.2 0) 1) - 1), (x_17.1, (va_up x_17.2 0 (upd (x_17.2 0) 1 (((x_17.2 0) 1) - 1)))))
def S_X8_turnBack (i : Nat → Int32) (a : Nat → Nat → Int32) : Prop :=
  (((a 0) 1) = 0 →
    True) ∧
  (¬ (((a 0) 1) = 0) →
    (S_X8_records i a) ∧
    ∀ x_17, x_17 = X8_records i a →
    True)
theorem iw_X8_turnBack_8 : ∀ w ∈ wsX80, w ∈ wsX8_turnBack := by decide +kernel
set_option maxHeartbeats 4000000 in
set_option maxRecDepth 100000 in
theorem c_X8_turnBack (l : Launch) (D : va_G) (yI yC yO : ClassId) (M : Nat → Nat) (i : Nat → Int32) (a : Nat → Nat → Int32) (sz : Nat) (hs : S_X8_turnBack i a) : Met l yX8_turnBack wsX8_turnBack ({ frames := 2, cells := 0, slots := 0, locals := 60 }) (va_Pc [.ref (M 0)] (lt_M D yI yC yO (lt_Md yI yC M i a) sz)) (lt_Qi D (X8_turnBack i a) (fun u => lt_Md yI yC M u.1 u.2) (va_A (lt_Md yI yC M i a) sz)) 0 0 (va_A (lt_Md yI yC M i a) sz) := by
  refine Met.ofW (cc := cX8_turnBack) (maxL := 1) (ret := (some .int)) (by decide) rfl ?_
  intro p e s m args below meth c s₁ B0 hml hv
  obtain ⟨rfl, hsz, hP, hK0, hD0⟩ := hv
  have hx := B0.exec
  have hb := B0.bytes
  have hret := B0.returns
  have hts := atoms_spec (ws := wsX8_turnBack) B0.pre
  have hown : s.vm.findClass RX8 = some m.cls := findClass_of_methodNamed B0.named
  have hlocks := B0.notSynchronized
  have hK := hK0.1
  have hN := hK0.2
  subst hsz
  have hD := hD0.self (sz := s.heap.size)
  generalize hAe : va_A (lt_Md yI yC M i a) s.heap.size = A at hD ⊢
  have hA : ∀ q : Nat, s.heap.size ≤ q → A q := fun q h => by rw [← hAe]; exact Or.inr h
  have hS : va_S A s.heap s.heap [] := va_S.rf
  have hP : va_P D vwCl (lt_Md yI yC M i a) s.heap := hP
  have hD : va_D A (lt_Md yI yC M i a) := hD
  have hl := lv_entry ([.ref (M 0)]) (n := 1) (Nat.le_of_ble_eq_true rfl)
  rw [lg_entry_eq]
  generalize (lg_sl ([.ref (M 0)]) ++ List.replicate (1 - (lg_sl ([.ref (M 0)])).length) Slot.unset).toArray = ls at hl ⊢
  have hl : lv_has ls 1 [(0, .ref (M 0))] := hl
  refine lv_aload_n hx hb dX8_turnBack_0 rfl (lv_at hl 0 rfl) ?_
  refine va_get (D := D) (ci := 8) (v := .ref (M 1)) (C := RX8) (T := TX8) (N := 13) hx hb hts iw_X8_turnBack_8 hown hK hP 0 rfl rfl 0 (by decide) (hts (.fieldLink RX8 7 "LeafTurnerModel" "now" "[I") (by decide +kernel)) (fun _ h9 => h9) rfl dX8_turnBack_1 ?_
  refine lv_iconst (v := 1) hx hb dX8_turnBack_4 (by decide) ?_
  refine va_iald hx hb hK hP 1 0 rfl rfl (i := 1) (vp_in_iff.mpr (by decide)) dX8_turnBack_5 ?_
  refine lt_top (y := ((a 0) 1)) rfl ?_
  refine lv_if_ne (tgt := 12) hx hb dX8_turnBack_6 (by decide) (fun c_6 => ?_) (fun c_6 => ?_)
  · have hs := hs.2 c_6
    refine lv_aload_n hx hb dX8_turnBack_12 rfl (lv_at hl 0 rfl) ?_
    refine lv_aload_n hx hb dX8_turnBack_13 rfl (lv_at hl 0 rfl) ?_
    refine va_get (D := D) (ci := 8) (v := .ref (M 1)) (C := RX8) (T := TX8) (N := 13) hx hb hts iw_X8_turnBack_8 hown hK hP 0 rfl rfl 0 (by decide) (hts (.fieldLink RX8 7 "LeafTurnerModel" "now" "[I") (by decide +kernel)) (fun _ h9 => h9) rfl dX8_turnBack_14 ?_
    have ho_17 := hs.1; have hs := hs.2
    have hPc := hP.sub (ws' := lt_Md yI yC M i a) [0, 1, 2, 3, 4, 5, 6, 7, 8] rfl
    have hDc := hD.sub (ws' := lt_Md yI yC M i a) [0, 1, 2, 3, 4, 5, 6, 7, 8] (by decide) rfl
    refine lt_cWv (wc := lt_Md yI yC M i a) (wr := []) (va_runV (As := [.ref (M 1)]) (rest := []) ⟨hx, hb, hml, hown, hts⟩ (c_X8_records l D yI yC yO M i a _ ho_17) (cwV 1 hts gX8_turnBack_X8_records rfl rfl rfl (by decide +kernel) ⟨Nat.le_of_ble_eq_true rfl, Nat.le_of_ble_eq_true rfl⟩) (lt_qV hK0 hPc hDc (va_recv hK hPc (ci := 8) (q0 := 0) rfl rfl)) rfl rfl hl.1 rfl (lv_room (Nat.le_of_ble_eq_true rfl)) dX8_turnBack_17 ⟨Nat.zero_le _, Nat.zero_le _⟩) hP hD hS hA [0, 1, 2, 3, 4, 5, 6, 7, 8] [] rfl rfl (by decide) (by decide) (fun x_17 e_x_17 H locs hP hD hS => ?_)
    have hP := hP.sub (ws' := lt_Md yI yC M x_17.1 x_17.2) [0, 1, 2, 3, 4, 5, 6, 7, 8] rfl
    have hD := hD.sub (ws' := lt_Md yI yC M x_17.1 x_17.2) [0, 1, 2, 3, 4, 5, 6, 7, 8] (by decide) rfl
    have hs := hs x_17 e_x_17
    refine lv_aload_n hx hb dX8_turnBack_20 rfl (lv_at hl 0 rfl) ?_
    refine va_get (D := D) (ci := 8) (v := .ref (M 1)) (C := RX8) (T := TX8) (N := 13) hx hb hts iw_X8_turnBack_8 hown hK hP 0 rfl rfl 0 (by decide) (hts (.fieldLink RX8 7 "LeafTurnerModel" "now" "[I") (by decide +kernel)) (fun _ h9 => h9) rfl dX8_turnBack_21 ?_
    refine lv_iconst (v := 1) hx hb dX8_turnBack_24 (by decide) ?_
    refine lv_dup2_11 hx hb dX8_turnBack_25 rfl rfl ?_
    refine va_iald hx hb hK hP 1 0 rfl rfl (i := 1) (vp_in_iff.mpr (by decide)) dX8_turnBack_26 ?_
    refine lt_top (y := ((x_17.2 0) 1)) rfl ?_
    refine lv_iconst (v := 1) hx hb dX8_turnBack_27 (by decide) ?_
    refine lv_isub hx hb dX8_turnBack_28 ?_
    refine va_iast hx hb hK hP hD hS 1 0 rfl rfl (i := 1) (x := (((x_17.2 0) 1) - 1)) (vp_in_iff.mpr (by decide)) dX8_turnBack_29 (fun H locs hP hD hS => ?_)
    have hP : va_P D vwCl (lt_Md yI yC M x_17.1 (va_up x_17.2 0 (upd (x_17.2 0) 1 (((x_17.2 0) 1) - 1)))) H := hP
    have hD : va_D A (lt_Md yI yC M x_17.1 (va_up x_17.2 0 (upd (x_17.2 0) 1 (((x_17.2 0) 1) - 1)))) := hD
    refine lv_aload_n hx hb dX8_turnBack_30 rfl (lv_at hl 0 rfl) ?_
    refine va_get (D := D) (ci := 8) (v := .ref (M 1)) (C := RX8) (T := TX8) (N := 13) hx hb hts iw_X8_turnBack_8 hown hK hP 0 rfl rfl 0 (by decide) (hts (.fieldLink RX8 7 "LeafTurnerModel" "now" "[I") (by decide +kernel)) (fun _ h9 => h9) rfl dX8_turnBack_31 ?_
    refine lv_iconst (v := 1) hx hb dX8_turnBack_34 (by decide) ?_
    refine va_iald hx hb hK hP 1 0 rfl rfl (i := 1) (vp_in_iff.mpr (by decide)) dX8_turnBack_35 ?_
    refine lt_top (y := (((x_17.2 0) 1) - 1)) rfl ?_
    exact W.iret (v := (((x_17.2 0) 1) - 1)) hx hb hret (fun t ht hW => ⟨⟨(((x_17.2 0) 1) - 1), (x_17.1, (va_up x_17.2 0 (upd (x_17.2 0) 1 (((x_17.2 0) 1) - 1)))), rfl, (by subst e_x_17; exact (Eq.symm (Eq.trans (if_neg c_6) rfl))), by rw [ht]; exact hP, hD⟩, hS.F ht⟩) hS.2.2 dX8_turnBack_36
  · have hs := hs.1 c_6
    refine lv_bipush (v := (-4)) hx hb dX8_turnBack_9 (by decide) ?_
    exact W.iret (v := (-4)) hx hb hret (fun t ht hW => ⟨⟨(-4), (i, a), rfl, (Eq.symm (Eq.trans (if_pos c_6) rfl)), by rw [ht]; exact hP, hD⟩, hS.F ht⟩) hS.2.2 dX8_turnBack_11

def X8_shoot (i : Nat → Int32) (a : Nat → Nat → Int32) : Int32 × ((Nat → Int32) × (Nat → Nat → Int32)) :=
  if ((a 0) 0) = 0 then
    ((-4), (i, a))
  else
    let x_22 := X8_lays 532 532 (a 0) (a 1) 0 0
    let x_29 := X8_shots x_22
    if (((a 0) 2) + x_29.1) ≤ 80 then
      let x_54 := X8_records i (va_up a 1 x_29.2)
      let x_67 := X8_lays 532 532 (x_54.2 1) (x_54.2 0) 0 0
      (x_29.1, (x_54.1, (va_up x_54.2 0 x_67)))
    else
      ((-3), (i, (va_up a 1 x_29.2)))
def S_X8_shoot (i : Nat → Int32) (a : Nat → Nat → Int32) : Prop :=
  (((a 0) 0) = 0 →
    True) ∧
  (¬ (((a 0) 0) = 0) →
    (S_X8_lays 532 532 (a 0) (a 1) 0 0) ∧
    ∀ x_22, x_22 = X8_lays 532 532 (a 0) (a 1) 0 0 →
    (S_X8_shots x_22) ∧
    ∀ x_29, x_29 = X8_shots x_22 →
    ((((a 0) 2) + x_29.1) ≤ 80 →
      (S_X8_records i (va_up a 1 x_29.2)) ∧
      ∀ x_54, x_54 = X8_records i (va_up a 1 x_29.2) →
      (S_X8_lays 532 532 (x_54.2 1) (x_54.2 0) 0 0) ∧
      ∀ x_67, x_67 = X8_lays 532 532 (x_54.2 1) (x_54.2 0) 0 0 →
      True) ∧
    (¬ ((((a 0) 2) + x_29.1) ≤ 80) →
      True))
theorem iw_X8_shoot_8 : ∀ w ∈ wsX80, w ∈ wsX8_shoot := by decide +kernel
set_option maxHeartbeats 4000000 in
set_option maxRecDepth 100000 in
theorem c_X8_shoot (l : Launch) (D : va_G) (yI yC yO : ClassId) (M : Nat → Nat) (i : Nat → Int32) (a : Nat → Nat → Int32) (sz : Nat) (hs : S_X8_shoot i a) : Met l yX8_shoot wsX8_shoot ({ frames := 3, cells := 0, slots := 0, locals := 90 }) (va_Pc [.ref (M 0)] (lt_M D yI yC yO (lt_Md yI yC M i a) sz)) (lt_Qi D (X8_shoot i a) (fun u => lt_Md yI yC M u.1 u.2) (va_A (lt_Md yI yC M i a) sz)) 0 0 (va_A (lt_Md yI yC M i a) sz) := by
  refine Met.ofW (cc := cX8_shoot) (maxL := 2) (ret := (some .int)) (by decide) rfl ?_
  intro p e s m args below meth c s₁ B0 hml hv
  obtain ⟨rfl, hsz, hP, hK0, hD0⟩ := hv
  have hx := B0.exec
  have hb := B0.bytes
  have hret := B0.returns
  have hts := atoms_spec (ws := wsX8_shoot) B0.pre
  have hown : s.vm.findClass RX8 = some m.cls := findClass_of_methodNamed B0.named
  have hlocks := B0.notSynchronized
  have hK := hK0.1
  have hN := hK0.2
  subst hsz
  have hD := hD0.self (sz := s.heap.size)
  generalize hAe : va_A (lt_Md yI yC M i a) s.heap.size = A at hD ⊢
  have hA : ∀ q : Nat, s.heap.size ≤ q → A q := fun q h => by rw [← hAe]; exact Or.inr h
  have hS : va_S A s.heap s.heap [] := va_S.rf
  have hP : va_P D vwCl (lt_Md yI yC M i a) s.heap := hP
  have hD : va_D A (lt_Md yI yC M i a) := hD
  have hl := lv_entry ([.ref (M 0)]) (n := 2) (Nat.le_of_ble_eq_true rfl)
  rw [lg_entry_eq]
  generalize (lg_sl ([.ref (M 0)]) ++ List.replicate (2 - (lg_sl ([.ref (M 0)])).length) Slot.unset).toArray = ls at hl ⊢
  have hl : lv_has ls 2 [(0, .ref (M 0))] := hl
  refine lv_aload_n hx hb dX8_shoot_0 rfl (lv_at hl 0 rfl) ?_
  refine va_get (D := D) (ci := 8) (v := .ref (M 1)) (C := RX8) (T := TX8) (N := 13) hx hb hts iw_X8_shoot_8 hown hK hP 0 rfl rfl 0 (by decide) (hts (.fieldLink RX8 7 "LeafTurnerModel" "now" "[I") (by decide +kernel)) (fun _ h9 => h9) rfl dX8_shoot_1 ?_
  refine lv_iconst (v := 0) hx hb dX8_shoot_4 (by decide) ?_
  refine va_iald hx hb hK hP 1 0 rfl rfl (i := 0) (vp_in_iff.mpr (by decide)) dX8_shoot_5 ?_
  refine lt_top (y := ((a 0) 0)) rfl ?_
  refine lv_if_ne (tgt := 12) hx hb dX8_shoot_6 (by decide) (fun c_6 => ?_) (fun c_6 => ?_)
  · have hs := hs.2 c_6
    refine lv_aload_n hx hb dX8_shoot_12 rfl (lv_at hl 0 rfl) ?_
    refine va_get (D := D) (ci := 8) (v := .ref (M 1)) (C := RX8) (T := TX8) (N := 13) hx hb hts iw_X8_shoot_8 hown hK hP 0 rfl rfl 0 (by decide) (hts (.fieldLink RX8 7 "LeafTurnerModel" "now" "[I") (by decide +kernel)) (fun _ h9 => h9) rfl dX8_shoot_13 ?_
    refine lv_iconst (v := 0) hx hb dX8_shoot_16 (by decide) ?_
    refine lv_aload_n hx hb dX8_shoot_17 rfl (lv_at hl 0 rfl) ?_
    refine va_get (D := D) (ci := 8) (v := .ref (M 2)) (C := RX8) (T := TX8) (N := 13) hx hb hts iw_X8_shoot_8 hown hK hP 0 rfl rfl 1 (by decide) (hts (.fieldLink RX8 13 "LeafTurnerModel" "then" "[I") (by decide +kernel)) (fun _ h9 => h9) rfl dX8_shoot_18 ?_
    refine lv_iconst (v := 0) hx hb dX8_shoot_21 (by decide) ?_
    have ho_22 := hs.1; have hs := hs.2
    have hPc := hP.sub (ws' := lt_Ro yI (M 1) 532 (a 0) ++ lt_Ro yI (M 2) 532 (a 1)) [1, 2] rfl
    have hDc := hD.sub (ws' := lt_Ro yI (M 1) 532 (a 0) ++ lt_Ro yI (M 2) 532 (a 1)) [1, 2] (by decide) rfl
    refine lt_cWv (wc := lt_Ro yI (M 1) 532 (a 0) ++ lt_Ro yI (M 2) 532 (a 1)) (wr := [(M 0, .inr (8, [.ref (M 1), .ref (M 2), .ref (M 3), .int (i 0), .ref (M 4), .int (i 1), .ref (M 5), .int (i 2), .ref (M 6), .ref (M 7), .int (i 3), .ref (M 8), .int (i 4)])), (M 3, .inl (yI, 2128, .inl (a 2))), (M 4, .inl (yI, 532, .inl (a 3))), (M 5, .inl (yC, 60, .inl (a 4))), (M 6, .inl (yI, 80, .inl (a 5))), (M 7, .inl (yI, 60, .inl (a 6))), (M 8, .inl (yI, 93, .inl (a 7)))]) (va_runS (As := [.ref (M 1), .int 0, .ref (M 2), .int 0]) (rest := []) ⟨hx, hb, hml, hown, hts⟩ (c_X8_lays l D yI yC yO (M 1) 532 (M 2) 532 (a 0) (a 1) 0 0 _ ho_22) (va_cwS 4 hts gX8_shoot_X8_lays rfl rfl rfl (by decide +kernel) ⟨Nat.le_of_ble_eq_true rfl, Nat.le_of_ble_eq_true rfl⟩) (lt_qS hK0 hPc hDc) rfl rfl hl.1 rfl (lv_room (Nat.le_of_ble_eq_true rfl)) dX8_shoot_22 ⟨Nat.zero_le _, Nat.zero_le _⟩) hP hD hS hA [1, 2] [0, 3, 4, 5, 6, 7, 8] rfl rfl (by decide) (by decide) (fun x_22 e_x_22 H locs hP hD hS => ?_)
    have hP := hP.sub (ws' := lt_Md yI yC M i (va_up a 1 x_22)) [0, 7, 8, 1, 2, 3, 4, 5, 6] rfl
    have hD := hD.sub (ws' := lt_Md yI yC M i (va_up a 1 x_22)) [0, 7, 8, 1, 2, 3, 4, 5, 6] (by decide) rfl
    have hs := hs x_22 e_x_22
    refine lv_aload_n hx hb dX8_shoot_25 rfl (lv_at hl 0 rfl) ?_
    refine va_get (D := D) (ci := 8) (v := .ref (M 2)) (C := RX8) (T := TX8) (N := 13) hx hb hts iw_X8_shoot_8 hown hK hP 0 rfl rfl 1 (by decide) (hts (.fieldLink RX8 13 "LeafTurnerModel" "then" "[I") (by decide +kernel)) (fun _ h9 => h9) rfl dX8_shoot_26 ?_
    have ho_29 := hs.1; have hs := hs.2
    have hPc := hP.sub (ws' := lt_Ro yI (M 2) 532 x_22) [2] rfl
    have hDc := hD.sub (ws' := lt_Ro yI (M 2) 532 x_22) [2] (by decide) rfl
    refine lt_cWi (wc := lt_Ro yI (M 2) 532 x_22) (wr := [(M 0, .inr (8, [.ref (M 1), .ref (M 2), .ref (M 3), .int (i 0), .ref (M 4), .int (i 1), .ref (M 5), .int (i 2), .ref (M 6), .ref (M 7), .int (i 3), .ref (M 8), .int (i 4)])), (M 1, .inl (yI, 532, .inl (a 0))), (M 3, .inl (yI, 2128, .inl (a 2))), (M 4, .inl (yI, 532, .inl (a 3))), (M 5, .inl (yC, 60, .inl (a 4))), (M 6, .inl (yI, 80, .inl (a 5))), (M 7, .inl (yI, 60, .inl (a 6))), (M 8, .inl (yI, 93, .inl (a 7)))]) (va_runS (As := [.ref (M 2)]) (rest := []) ⟨hx, hb, hml, hown, hts⟩ (c_X8_shots l D yI yC yO (M 2) x_22 _ ho_29) (va_cwS 1 hts gX8_shoot_X8_shots rfl rfl rfl (by decide +kernel) ⟨Nat.le_of_ble_eq_true rfl, Nat.le_of_ble_eq_true rfl⟩) (lt_qS hK0 hPc hDc) rfl rfl hl.1 rfl (lv_room (Nat.le_of_ble_eq_true rfl)) dX8_shoot_29 ⟨Nat.zero_le _, Nat.zero_le _⟩) hP hD hS hA [2] [0, 1, 3, 4, 5, 6, 7, 8] rfl rfl (by decide) (by decide) (fun x_29 e_x_29 H locs hP hD hS => ?_)
    have hP := hP.sub (ws' := lt_Md yI yC M i (va_up a 1 x_29.2)) [0, 1, 8, 2, 3, 4, 5, 6, 7] rfl
    have hD := hD.sub (ws' := lt_Md yI yC M i (va_up a 1 x_29.2)) [0, 1, 8, 2, 3, 4, 5, 6, 7] (by decide) rfl
    have hs := hs x_29 e_x_29
    refine lv_istore_n (lv' := [(1, .int x_29.1), (0, .ref (M 0))]) hx hb dX8_shoot_32 rfl hl (by decide) rfl (fun ls hl => ?_)
    refine lv_aload_n hx hb dX8_shoot_33 rfl (lv_at hl 1 rfl) ?_
    refine va_get (D := D) (ci := 8) (v := .ref (M 1)) (C := RX8) (T := TX8) (N := 13) hx hb hts iw_X8_shoot_8 hown hK hP 0 rfl rfl 0 (by decide) (hts (.fieldLink RX8 7 "LeafTurnerModel" "now" "[I") (by decide +kernel)) (fun _ h9 => h9) rfl dX8_shoot_34 ?_
    refine lv_iconst (v := 2) hx hb dX8_shoot_37 (by decide) ?_
    refine va_iald hx hb hK hP 1 0 rfl rfl (i := 2) (vp_in_iff.mpr (by decide)) dX8_shoot_38 ?_
    refine lt_top (y := ((a 0) 2)) rfl ?_
    refine lv_iload_n hx hb dX8_shoot_39 rfl (lv_at hl 0 rfl) ?_
    refine lv_iadd hx hb dX8_shoot_40 ?_
    refine lv_bipush (v := 80) hx hb dX8_shoot_41 (by decide) ?_
    refine lv_icmp_le (tgt := 49) hx hb dX8_shoot_43 (by decide) (fun c_43 => ?_) (fun c_43 => ?_)
    · have hs := hs.1 c_43
      refine lv_aload_n hx hb dX8_shoot_49 rfl (lv_at hl 1 rfl) ?_
      refine lv_aload_n hx hb dX8_shoot_50 rfl (lv_at hl 1 rfl) ?_
      refine va_get (D := D) (ci := 8) (v := .ref (M 1)) (C := RX8) (T := TX8) (N := 13) hx hb hts iw_X8_shoot_8 hown hK hP 0 rfl rfl 0 (by decide) (hts (.fieldLink RX8 7 "LeafTurnerModel" "now" "[I") (by decide +kernel)) (fun _ h9 => h9) rfl dX8_shoot_51 ?_
      have ho_54 := hs.1; have hs := hs.2
      have hPc := hP.sub (ws' := lt_Md yI yC M i (va_up a 1 x_29.2)) [0, 1, 2, 3, 4, 5, 6, 7, 8] rfl
      have hDc := hD.sub (ws' := lt_Md yI yC M i (va_up a 1 x_29.2)) [0, 1, 2, 3, 4, 5, 6, 7, 8] (by decide) rfl
      refine lt_cWv (wc := lt_Md yI yC M i (va_up a 1 x_29.2)) (wr := []) (va_runV (As := [.ref (M 1)]) (rest := []) ⟨hx, hb, hml, hown, hts⟩ (c_X8_records l D yI yC yO M i (va_up a 1 x_29.2) _ ho_54) (cwV 1 hts gX8_shoot_X8_records rfl rfl rfl (by decide +kernel) ⟨Nat.le_of_ble_eq_true rfl, Nat.le_of_ble_eq_true rfl⟩) (lt_qV hK0 hPc hDc (va_recv hK hPc (ci := 8) (q0 := 0) rfl rfl)) rfl rfl hl.1 rfl (lv_room (Nat.le_of_ble_eq_true rfl)) dX8_shoot_54 ⟨Nat.zero_le _, Nat.zero_le _⟩) hP hD hS hA [0, 1, 2, 3, 4, 5, 6, 7, 8] [] rfl rfl (by decide) (by decide) (fun x_54 e_x_54 H locs hP hD hS => ?_)
      have hP := hP.sub (ws' := lt_Md yI yC M x_54.1 x_54.2) [0, 1, 2, 3, 4, 5, 6, 7, 8] rfl
      have hD := hD.sub (ws' := lt_Md yI yC M x_54.1 x_54.2) [0, 1, 2, 3, 4, 5, 6, 7, 8] (by decide) rfl
      have hs := hs x_54 e_x_54
      refine lv_aload_n hx hb dX8_shoot_57 rfl (lv_at hl 1 rfl) ?_
      refine va_get (D := D) (ci := 8) (v := .ref (M 2)) (C := RX8) (T := TX8) (N := 13) hx hb hts iw_X8_shoot_8 hown hK hP 0 rfl rfl 1 (by decide) (hts (.fieldLink RX8 13 "LeafTurnerModel" "then" "[I") (by decide +kernel)) (fun _ h9 => h9) rfl dX8_shoot_58 ?_
      refine lv_iconst (v := 0) hx hb dX8_shoot_61 (by decide) ?_
      refine lv_aload_n hx hb dX8_shoot_62 rfl (lv_at hl 1 rfl) ?_
      refine va_get (D := D) (ci := 8) (v := .ref (M 1)) (C := RX8) (T := TX8) (N := 13) hx hb hts iw_X8_shoot_8 hown hK hP 0 rfl rfl 0 (by decide) (hts (.fieldLink RX8 7 "LeafTurnerModel" "now" "[I") (by decide +kernel)) (fun _ h9 => h9) rfl dX8_shoot_63 ?_
      refine lv_iconst (v := 0) hx hb dX8_shoot_66 (by decide) ?_
      have ho_67 := hs.1; have hs := hs.2
      have hPc := hP.sub (ws' := lt_Ro yI (M 2) 532 (x_54.2 1) ++ lt_Ro yI (M 1) 532 (x_54.2 0)) [2, 1] rfl
      have hDc := hD.sub (ws' := lt_Ro yI (M 2) 532 (x_54.2 1) ++ lt_Ro yI (M 1) 532 (x_54.2 0)) [2, 1] (by decide) rfl
      refine lt_cWv (wc := lt_Ro yI (M 2) 532 (x_54.2 1) ++ lt_Ro yI (M 1) 532 (x_54.2 0)) (wr := [(M 0, .inr (8, [.ref (M 1), .ref (M 2), .ref (M 3), .int (x_54.1 0), .ref (M 4), .int (x_54.1 1), .ref (M 5), .int (x_54.1 2), .ref (M 6), .ref (M 7), .int (x_54.1 3), .ref (M 8), .int (x_54.1 4)])), (M 3, .inl (yI, 2128, .inl (x_54.2 2))), (M 4, .inl (yI, 532, .inl (x_54.2 3))), (M 5, .inl (yC, 60, .inl (x_54.2 4))), (M 6, .inl (yI, 80, .inl (x_54.2 5))), (M 7, .inl (yI, 60, .inl (x_54.2 6))), (M 8, .inl (yI, 93, .inl (x_54.2 7)))]) (va_runS (As := [.ref (M 2), .int 0, .ref (M 1), .int 0]) (rest := []) ⟨hx, hb, hml, hown, hts⟩ (c_X8_lays l D yI yC yO (M 2) 532 (M 1) 532 (x_54.2 1) (x_54.2 0) 0 0 _ ho_67) (va_cwS 4 hts gX8_shoot_X8_lays rfl rfl rfl (by decide +kernel) ⟨Nat.le_of_ble_eq_true rfl, Nat.le_of_ble_eq_true rfl⟩) (lt_qS hK0 hPc hDc) rfl rfl hl.1 rfl (lv_room (Nat.le_of_ble_eq_true rfl)) dX8_shoot_67 ⟨Nat.zero_le _, Nat.zero_le _⟩) hP hD hS hA [2, 1] [0, 3, 4, 5, 6, 7, 8] rfl rfl (by decide) (by decide) (fun x_67 e_x_67 H locs hP hD hS => ?_)
      have hP := hP.sub (ws' := lt_Md yI yC M x_54.1 (va_up x_54.2 0 x_67)) [0, 8, 7, 1, 2, 3, 4, 5, 6] rfl
      have hD := hD.sub (ws' := lt_Md yI yC M x_54.1 (va_up x_54.2 0 x_67)) [0, 8, 7, 1, 2, 3, 4, 5, 6] (by decide) rfl
      have hs := hs x_67 e_x_67
      refine lv_iload_n hx hb dX8_shoot_70 rfl (lv_at hl 0 rfl) ?_
      exact W.iret (v := x_29.1) hx hb hret (fun t ht hW => ⟨⟨x_29.1, (x_54.1, (va_up x_54.2 0 x_67)), rfl, (by subst e_x_67 e_x_54 e_x_29 e_x_22; exact (Eq.symm (Eq.trans (if_neg c_6) (Eq.trans (if_pos c_43) rfl)))), by rw [ht]; exact hP, hD⟩, hS.F ht⟩) hS.2.2 dX8_shoot_71
    · have hs := hs.2 c_43
      refine lv_bipush (v := (-3)) hx hb dX8_shoot_46 (by decide) ?_
      exact W.iret (v := (-3)) hx hb hret (fun t ht hW => ⟨⟨(-3), (i, (va_up a 1 x_29.2)), rfl, (by subst e_x_29 e_x_22; exact (Eq.symm (Eq.trans (if_neg c_6) (Eq.trans (if_neg c_43) rfl)))), by rw [ht]; exact hP, hD⟩, hS.F ht⟩) hS.2.2 dX8_shoot_48
  · have hs := hs.1 c_6
    refine lv_bipush (v := (-4)) hx hb dX8_shoot_9 (by decide) ?_
    exact W.iret (v := (-4)) hx hb hret (fun t ht hW => ⟨⟨(-4), (i, a), rfl, (Eq.symm (Eq.trans (if_pos c_6) rfl)), by rw [ht]; exact hP, hD⟩, hS.F ht⟩) hS.2.2 dX8_shoot_11

def X8_scan_L45 (i : Nat → Int32) (a : Nat → Nat → Int32) (p0 : Int32) : Nat → (Int32) → (Int32) → (Int32) → (Nat → Nat → Int32) → Int32 × ((Nat → Int32) × (Nat → Nat → Int32))
  | 0, _, _, _, _ => (0, (i, a))
  | fu + 1, v2, v3, v4, a0 =>
    if p0 ≤ v4 then
      if ((a0 1) 1) = ((a0 1) 0) then
        if v3 < 0 then
          if (((a0 0) 2) + (v2 + 0)) ≤ 80 then
            let x_146 := X8_records i a0
            let x_159 := X8_lays 532 532 (x_146.2 1) (x_146.2 0) 0 0
            ((v2 + 0), (x_146.1, (va_up x_146.2 0 x_159)))
          else
            ((-3), (i, a0))
        else
          let x_116 := X8_shots (a0 1)
          if (((a0 0) 2) + (v2 + x_116.1)) ≤ 80 then
            let x_146 := X8_records i (va_up a0 1 x_116.2)
            let x_159 := X8_lays 532 532 (x_146.2 1) (x_146.2 0) 0 0
            ((v2 + x_116.1), (x_146.1, (va_up x_146.2 0 x_159)))
          else
            ((-3), (i, (va_up a0 1 x_116.2)))
      else
        if (((a0 0) 2) + (v2 + 0)) ≤ 80 then
          let x_146 := X8_records i a0
          let x_159 := X8_lays 532 532 (x_146.2 1) (x_146.2 0) 0 0
          ((v2 + 0), (x_146.1, (va_up x_146.2 0 x_159)))
        else
          ((-3), (i, a0))
    else
      if ((a0 1) 0) ≤ ((a0 1) 1) then
        if ((a0 1) 1) = ((a0 1) 0) then
          if v3 < 0 then
            if (((a0 0) 2) + (v2 + 0)) ≤ 80 then
              let x_146 := X8_records i a0
              let x_159 := X8_lays 532 532 (x_146.2 1) (x_146.2 0) 0 0
              ((v2 + 0), (x_146.1, (va_up x_146.2 0 x_159)))
            else
              ((-3), (i, a0))
          else
            let x_116 := X8_shots (a0 1)
            if (((a0 0) 2) + (v2 + x_116.1)) ≤ 80 then
              let x_146 := X8_records i (va_up a0 1 x_116.2)
              let x_159 := X8_lays 532 532 (x_146.2 1) (x_146.2 0) 0 0
              ((v2 + x_116.1), (x_146.1, (va_up x_146.2 0 x_159)))
            else
              ((-3), (i, (va_up a0 1 x_116.2)))
        else
          if (((a0 0) 2) + (v2 + 0)) ≤ 80 then
            let x_146 := X8_records i a0
            let x_159 := X8_lays 532 532 (x_146.2 1) (x_146.2 0) 0 0
            ((v2 + 0), (x_146.1, (va_up x_146.2 0 x_159)))
          else
            ((-3), (i, a0))
      else
        let x_71 := X8_shots (a0 1)
        let x_81 := X8_turns x_71.2
        X8_scan_L45 i a p0 fu (v2 + x_71.1) (v3 + x_81.1) (v4 + 1) (va_up a0 1 x_81.2)
def S_X8_scan_L45 (i : Nat → Int32) (a : Nat → Nat → Int32) (p0 : Int32) : Nat → (Int32) → (Int32) → (Int32) → (Nat → Nat → Int32) → Prop
  | 0, _, _, _, _ => True
  | fu + 1, v2, v3, v4, a0 =>
    (p0 ≤ v4 →
      (((a0 1) 1) = ((a0 1) 0) →
        (v3 < 0 →
          ((((a0 0) 2) + (v2 + 0)) ≤ 80 →
            (S_X8_records i a0) ∧
            ∀ x_146, x_146 = X8_records i a0 →
            (S_X8_lays 532 532 (x_146.2 1) (x_146.2 0) 0 0) ∧
            ∀ x_159, x_159 = X8_lays 532 532 (x_146.2 1) (x_146.2 0) 0 0 →
            True) ∧
          (¬ ((((a0 0) 2) + (v2 + 0)) ≤ 80) →
            True)) ∧
        (¬ (v3 < 0) →
          (S_X8_shots (a0 1)) ∧
          ∀ x_116, x_116 = X8_shots (a0 1) →
          ((((a0 0) 2) + (v2 + x_116.1)) ≤ 80 →
            (S_X8_records i (va_up a0 1 x_116.2)) ∧
            ∀ x_146, x_146 = X8_records i (va_up a0 1 x_116.2) →
            (S_X8_lays 532 532 (x_146.2 1) (x_146.2 0) 0 0) ∧
            ∀ x_159, x_159 = X8_lays 532 532 (x_146.2 1) (x_146.2 0) 0 0 →
            True) ∧
          (¬ ((((a0 0) 2) + (v2 + x_116.1)) ≤ 80) →
            True))) ∧
      (¬ (((a0 1) 1) = ((a0 1) 0)) →
        ((((a0 0) 2) + (v2 + 0)) ≤ 80 →
          (S_X8_records i a0) ∧
          ∀ x_146, x_146 = X8_records i a0 →
          (S_X8_lays 532 532 (x_146.2 1) (x_146.2 0) 0 0) ∧
          ∀ x_159, x_159 = X8_lays 532 532 (x_146.2 1) (x_146.2 0) 0 0 →
          True) ∧
        (¬ ((((a0 0) 2) + (v2 + 0)) ≤ 80) →
          True))) ∧
    (¬ (p0 ≤ v4) →
      (((a0 1) 0) ≤ ((a0 1) 1) →
        (((a0 1) 1) = ((a0 1) 0) →
          (v3 < 0 →
            ((((a0 0) 2) + (v2 + 0)) ≤ 80 →
              (S_X8_records i a0) ∧
              ∀ x_146, x_146 = X8_records i a0 →
              (S_X8_lays 532 532 (x_146.2 1) (x_146.2 0) 0 0) ∧
              ∀ x_159, x_159 = X8_lays 532 532 (x_146.2 1) (x_146.2 0) 0 0 →
              True) ∧
            (¬ ((((a0 0) 2) + (v2 + 0)) ≤ 80) →
              True)) ∧
          (¬ (v3 < 0) →
            (S_X8_shots (a0 1)) ∧
            ∀ x_116, x_116 = X8_shots (a0 1) →
            ((((a0 0) 2) + (v2 + x_116.1)) ≤ 80 →
              (S_X8_records i (va_up a0 1 x_116.2)) ∧
              ∀ x_146, x_146 = X8_records i (va_up a0 1 x_116.2) →
              (S_X8_lays 532 532 (x_146.2 1) (x_146.2 0) 0 0) ∧
              ∀ x_159, x_159 = X8_lays 532 532 (x_146.2 1) (x_146.2 0) 0 0 →
              True) ∧
            (¬ ((((a0 0) 2) + (v2 + x_116.1)) ≤ 80) →
              True))) ∧
        (¬ (((a0 1) 1) = ((a0 1) 0)) →
          ((((a0 0) 2) + (v2 + 0)) ≤ 80 →
            (S_X8_records i a0) ∧
            ∀ x_146, x_146 = X8_records i a0 →
            (S_X8_lays 532 532 (x_146.2 1) (x_146.2 0) 0 0) ∧
            ∀ x_159, x_159 = X8_lays 532 532 (x_146.2 1) (x_146.2 0) 0 0 →
            True) ∧
          (¬ ((((a0 0) 2) + (v2 + 0)) ≤ 80) →
            True))) ∧
      (¬ (((a0 1) 0) ≤ ((a0 1) 1)) →
        (S_X8_shots (a0 1)) ∧
        ∀ x_71, x_71 = X8_shots (a0 1) →
        (S_X8_turns x_71.2) ∧
        ∀ x_81, x_81 = X8_turns x_71.2 →
        (S_X8_scan_L45 i a p0 fu (v2 + x_71.1) (v3 + x_81.1) (v4 + 1) (va_up a0 1 x_81.2)) ∧
        True))
def X8_scan (i : Nat → Int32) (a : Nat → Nat → Int32) (p0 : Int32) : Int32 × ((Nat → Int32) × (Nat → Nat → Int32)) :=
  let r_4 := X8_in p0 1 60
  if r_4 = 0 then
    ((-2), (i, a))
  else
    if ((a 0) 0) = 0 then
      ((-4), (i, a))
    else
      let x_35 := X8_lays 532 532 (a 0) (a 1) 0 0
      X8_scan_L45 i a p0 (((p0 : Int32).toInt - (0 : Int32).toInt).toNat + 1) 0 0 0 (va_up a 1 x_35)
def S_X8_scan (i : Nat → Int32) (a : Nat → Nat → Int32) (p0 : Int32) : Prop :=
  ∀ r_4, r_4 = X8_in p0 1 60 →
  (r_4 = 0 →
    True) ∧
  (¬ (r_4 = 0) →
    (((a 0) 0) = 0 →
      True) ∧
    (¬ (((a 0) 0) = 0) →
      (S_X8_lays 532 532 (a 0) (a 1) 0 0) ∧
      ∀ x_35, x_35 = X8_lays 532 532 (a 0) (a 1) 0 0 →
      (S_X8_scan_L45 i a p0 (((p0 : Int32).toInt - (0 : Int32).toInt).toNat + 1) 0 0 0 (va_up a 1 x_35)) ∧
      True))
theorem iw_X8_scan_8 : ∀ w ∈ wsX80, w ∈ wsX8_scan := by decide +kernel
set_option maxHeartbeats 4000000 in
set_option maxRecDepth 100000 in
theorem c_X8_scan (l : Launch) (D : va_G) (yI yC yO : ClassId) (M : Nat → Nat) (i : Nat → Int32) (a : Nat → Nat → Int32) (p0 : Int32) (sz : Nat) (hs : S_X8_scan i a p0) : Met l yX8_scan wsX8_scan ({ frames := 3, cells := 0, slots := 0, locals := 90 }) (va_Pc [.ref (M 0), .int p0] (lt_M D yI yC yO (lt_Md yI yC M i a) sz)) (lt_Qi D (X8_scan i a p0) (fun u => lt_Md yI yC M u.1 u.2) (va_A (lt_Md yI yC M i a) sz)) 0 0 (va_A (lt_Md yI yC M i a) sz) := by
  refine Met.ofW (cc := cX8_scan) (maxL := 5) (ret := (some .int)) (by decide) rfl ?_
  intro p e s m args below meth c s₁ B0 hml hv
  obtain ⟨rfl, hsz, hP, hK0, hD0⟩ := hv
  have hx := B0.exec
  have hb := B0.bytes
  have hret := B0.returns
  have hts := atoms_spec (ws := wsX8_scan) B0.pre
  have hown : s.vm.findClass RX8 = some m.cls := findClass_of_methodNamed B0.named
  have hlocks := B0.notSynchronized
  have hK := hK0.1
  have hN := hK0.2
  subst hsz
  have hD := hD0.self (sz := s.heap.size)
  generalize hAe : va_A (lt_Md yI yC M i a) s.heap.size = A at hD ⊢
  have hA : ∀ q : Nat, s.heap.size ≤ q → A q := fun q h => by rw [← hAe]; exact Or.inr h
  have hS : va_S A s.heap s.heap [] := va_S.rf
  have hP : va_P D vwCl (lt_Md yI yC M i a) s.heap := hP
  have hD : va_D A (lt_Md yI yC M i a) := hD
  have hl := lv_entry ([.ref (M 0), .int p0]) (n := 5) (Nat.le_of_ble_eq_true rfl)
  rw [lg_entry_eq]
  generalize (lg_sl ([.ref (M 0), .int p0]) ++ List.replicate (5 - (lg_sl ([.ref (M 0), .int p0])).length) Slot.unset).toArray = ls at hl ⊢
  have hl : lv_has ls 5 [(0, .ref (M 0)), (1, .int p0)] := hl
  refine lv_iload_n hx hb dX8_scan_0 rfl (lv_at hl 1 rfl) ?_
  refine lv_iconst (v := 1) hx hb dX8_scan_1 (by decide) ?_
  refine lv_bipush (v := 60) hx hb dX8_scan_2 (by decide) ?_
  have hPc := hP.sub (ws' := ([] : va_W)) [] rfl
  refine lt_cR (va_runS (As := [.int p0, .int 1, .int 60]) (rest := []) ⟨hx, hb, hml, hown, hts⟩ (c_X8_in l D yI yC yO p0 1 60 ) (va_cwS 3 hts gX8_scan_X8_in rfl rfl rfl (by decide +kernel) ⟨Nat.le_of_ble_eq_true rfl, Nat.le_of_ble_eq_true rfl⟩) (lt_pS hK0 hPc) rfl rfl hl.1 rfl (lv_room (Nat.le_of_ble_eq_true rfl)) dX8_scan_4 ⟨Nat.zero_le _, Nat.zero_le _⟩) (fun r_4 e_r_4 => ?_)
  have hs := hs r_4 e_r_4
  refine lv_if_ne (tgt := 13) hx hb dX8_scan_7 (by decide) (fun c_7 => ?_) (fun c_7 => ?_)
  · have hs := hs.2 c_7
    refine lv_aload_n hx hb dX8_scan_13 rfl (lv_at hl 0 rfl) ?_
    refine va_get (D := D) (ci := 8) (v := .ref (M 1)) (C := RX8) (T := TX8) (N := 13) hx hb hts iw_X8_scan_8 hown hK hP 0 rfl rfl 0 (by decide) (hts (.fieldLink RX8 7 "LeafTurnerModel" "now" "[I") (by decide +kernel)) (fun _ h9 => h9) rfl dX8_scan_14 ?_
    refine lv_iconst (v := 0) hx hb dX8_scan_17 (by decide) ?_
    refine va_iald hx hb hK hP 1 0 rfl rfl (i := 0) (vp_in_iff.mpr (by decide)) dX8_scan_18 ?_
    refine lt_top (y := ((a 0) 0)) rfl ?_
    refine lv_if_ne (tgt := 25) hx hb dX8_scan_19 (by decide) (fun c_19 => ?_) (fun c_19 => ?_)
    · have hs := hs.2 c_19
      refine lv_aload_n hx hb dX8_scan_25 rfl (lv_at hl 0 rfl) ?_
      refine va_get (D := D) (ci := 8) (v := .ref (M 1)) (C := RX8) (T := TX8) (N := 13) hx hb hts iw_X8_scan_8 hown hK hP 0 rfl rfl 0 (by decide) (hts (.fieldLink RX8 7 "LeafTurnerModel" "now" "[I") (by decide +kernel)) (fun _ h9 => h9) rfl dX8_scan_26 ?_
      refine lv_iconst (v := 0) hx hb dX8_scan_29 (by decide) ?_
      refine lv_aload_n hx hb dX8_scan_30 rfl (lv_at hl 0 rfl) ?_
      refine va_get (D := D) (ci := 8) (v := .ref (M 2)) (C := RX8) (T := TX8) (N := 13) hx hb hts iw_X8_scan_8 hown hK hP 0 rfl rfl 1 (by decide) (hts (.fieldLink RX8 13 "LeafTurnerModel" "then" "[I") (by decide +kernel)) (fun _ h9 => h9) rfl dX8_scan_31 ?_
      refine lv_iconst (v := 0) hx hb dX8_scan_34 (by decide) ?_
      have ho_35 := hs.1; have hs := hs.2
      have hPc := hP.sub (ws' := lt_Ro yI (M 1) 532 (a 0) ++ lt_Ro yI (M 2) 532 (a 1)) [1, 2] rfl
      have hDc := hD.sub (ws' := lt_Ro yI (M 1) 532 (a 0) ++ lt_Ro yI (M 2) 532 (a 1)) [1, 2] (by decide) rfl
      refine lt_cWv (wc := lt_Ro yI (M 1) 532 (a 0) ++ lt_Ro yI (M 2) 532 (a 1)) (wr := [(M 0, .inr (8, [.ref (M 1), .ref (M 2), .ref (M 3), .int (i 0), .ref (M 4), .int (i 1), .ref (M 5), .int (i 2), .ref (M 6), .ref (M 7), .int (i 3), .ref (M 8), .int (i 4)])), (M 3, .inl (yI, 2128, .inl (a 2))), (M 4, .inl (yI, 532, .inl (a 3))), (M 5, .inl (yC, 60, .inl (a 4))), (M 6, .inl (yI, 80, .inl (a 5))), (M 7, .inl (yI, 60, .inl (a 6))), (M 8, .inl (yI, 93, .inl (a 7)))]) (va_runS (As := [.ref (M 1), .int 0, .ref (M 2), .int 0]) (rest := []) ⟨hx, hb, hml, hown, hts⟩ (c_X8_lays l D yI yC yO (M 1) 532 (M 2) 532 (a 0) (a 1) 0 0 _ ho_35) (va_cwS 4 hts gX8_scan_X8_lays rfl rfl rfl (by decide +kernel) ⟨Nat.le_of_ble_eq_true rfl, Nat.le_of_ble_eq_true rfl⟩) (lt_qS hK0 hPc hDc) rfl rfl hl.1 rfl (lv_room (Nat.le_of_ble_eq_true rfl)) dX8_scan_35 ⟨Nat.zero_le _, Nat.zero_le _⟩) hP hD hS hA [1, 2] [0, 3, 4, 5, 6, 7, 8] rfl rfl (by decide) (by decide) (fun x_35 e_x_35 H locs hP hD hS => ?_)
      have hP := hP.sub (ws' := lt_Md yI yC M i (va_up a 1 x_35)) [0, 7, 8, 1, 2, 3, 4, 5, 6] rfl
      have hD := hD.sub (ws' := lt_Md yI yC M i (va_up a 1 x_35)) [0, 7, 8, 1, 2, 3, 4, 5, 6] (by decide) rfl
      have hs := hs x_35 e_x_35
      refine lv_iconst (v := 0) hx hb dX8_scan_38 (by decide) ?_
      refine lv_istore_n (lv' := [(2, .int 0), (0, .ref (M 0)), (1, .int p0)]) hx hb dX8_scan_39 rfl hl (by decide) rfl (fun ls hl => ?_)
      refine lv_iconst (v := 0) hx hb dX8_scan_40 (by decide) ?_
      refine lv_istore_n (lv' := [(3, .int 0), (2, .int 0), (0, .ref (M 0)), (1, .int p0)]) hx hb dX8_scan_41 rfl hl (by decide) rfl (fun ls hl => ?_)
      refine lv_iconst (v := 0) hx hb dX8_scan_42 (by decide) ?_
      refine lv_istore (lv' := [(4, .int 0), (3, .int 0), (2, .int 0), (0, .ref (M 0)), (1, .int p0)]) hx hb dX8_scan_43 hl (by decide) rfl (fun ls hl => ?_)
      refine lt_loop (σ := (Int32) × (Int32) × (Int32) × (Nat → Nat → Int32)) (fun fu (x : (Int32) × (Int32) × (Int32) × (Nat → Nat → Int32)) H locs ls => ∃ (v2 : Int32) (v3 : Int32) (v4 : Int32) (a0 : Nat → Nat → Int32), x = (v2, v3, v4, a0) ∧ lt_fu fu (p0) (v4) ∧ X8_scan_L45 i a p0 fu v2 v3 v4 a0 = X8_scan i a p0 ∧ S_X8_scan_L45 i a p0 fu v2 v3 v4 a0 ∧ va_P D vwCl (lt_Md yI yC M i a0) H ∧ va_D A (lt_Md yI yC M i a0) ∧ va_S A s.heap H locs ∧ lv_has ls 5 [(4, .int v4), (3, .int v3), (2, .int v2), (0, .ref (M 0)), (1, .int p0)]) ?_ ?_ (((p0 : Int32).toInt - (0 : Int32).toInt).toNat + 1) (0, 0, 0, (va_up a 1 x_35)) _ _ _ ⟨0, 0, 0, (va_up a 1 x_35), rfl, lt_fuI _ _, (by subst e_x_35 e_r_4; exact (Eq.symm (Eq.trans (if_neg c_7) (Eq.trans (if_neg c_19) rfl)))), hs.1, hP, hD, hS, (lv_sub hl [0, 1, 2, 3, 4] rfl)⟩
      · rintro x H locs ls ⟨_, _, _, _, -, hF, -⟩
        exact lt_fu0 hF
      · rintro fu ih x H locs ls ⟨v2, v3, v4, a0, rfl, hF, hT, hs, hP, hD, hS, hl⟩
        refine lv_iload hx hb dX8_scan_45 (lv_at hl 0 rfl) ?_
        refine lv_iload_n hx hb dX8_scan_47 rfl (lv_at hl 4 rfl) ?_
        refine lv_icmp_ge (tgt := 92) hx hb dX8_scan_48 (by decide) (fun c_48 => ?_) (fun c_48 => ?_)
        · have hs := hs.1 c_48
          refine lv_iload_n hx hb dX8_scan_92 rfl (lv_at hl 2 rfl) ?_
          refine lv_aload_n hx hb dX8_scan_93 rfl (lv_at hl 3 rfl) ?_
          refine va_get (D := D) (ci := 8) (v := .ref (M 2)) (C := RX8) (T := TX8) (N := 13) hx hb hts iw_X8_scan_8 hown hK hP 0 rfl rfl 1 (by decide) (hts (.fieldLink RX8 13 "LeafTurnerModel" "then" "[I") (by decide +kernel)) (fun _ h9 => h9) rfl dX8_scan_94 ?_
          refine lv_iconst (v := 1) hx hb dX8_scan_97 (by decide) ?_
          refine va_iald hx hb hK hP 2 0 rfl rfl (i := 1) (vp_in_iff.mpr (by decide)) dX8_scan_98 ?_
          refine lt_top (y := ((a0 1) 1)) rfl ?_
          refine lv_aload_n hx hb dX8_scan_99 rfl (lv_at hl 3 rfl) ?_
          refine va_get (D := D) (ci := 8) (v := .ref (M 2)) (C := RX8) (T := TX8) (N := 13) hx hb hts iw_X8_scan_8 hown hK hP 0 rfl rfl 1 (by decide) (hts (.fieldLink RX8 13 "LeafTurnerModel" "then" "[I") (by decide +kernel)) (fun _ h9 => h9) rfl dX8_scan_100 ?_
          refine lv_iconst (v := 0) hx hb dX8_scan_103 (by decide) ?_
          refine va_iald hx hb hK hP 2 0 rfl rfl (i := 0) (vp_in_iff.mpr (by decide)) dX8_scan_104 ?_
          refine lt_top (y := ((a0 1) 0)) rfl ?_
          refine lv_icmp_ne (tgt := 122) hx hb dX8_scan_105 (by decide) (fun c_105 => ?_) (fun c_105 => ?_)
          · have hs := hs.2 c_105
            refine lv_iconst (v := 0) hx hb dX8_scan_122 (by decide) ?_
            refine lv_iadd hx hb dX8_scan_123 ?_
            refine lv_istore_n (lv' := [(2, .int (v2 + 0)), (4, .int v4), (3, .int v3), (0, .ref (M 0)), (1, .int p0)]) hx hb dX8_scan_124 rfl hl (by decide) rfl (fun ls hl => ?_)
            refine lv_aload_n hx hb dX8_scan_125 rfl (lv_at hl 3 rfl) ?_
            refine va_get (D := D) (ci := 8) (v := .ref (M 1)) (C := RX8) (T := TX8) (N := 13) hx hb hts iw_X8_scan_8 hown hK hP 0 rfl rfl 0 (by decide) (hts (.fieldLink RX8 7 "LeafTurnerModel" "now" "[I") (by decide +kernel)) (fun _ h9 => h9) rfl dX8_scan_126 ?_
            refine lv_iconst (v := 2) hx hb dX8_scan_129 (by decide) ?_
            refine va_iald hx hb hK hP 1 0 rfl rfl (i := 2) (vp_in_iff.mpr (by decide)) dX8_scan_130 ?_
            refine lt_top (y := ((a0 0) 2)) rfl ?_
            refine lv_iload_n hx hb dX8_scan_131 rfl (lv_at hl 0 rfl) ?_
            refine lv_iadd hx hb dX8_scan_132 ?_
            refine lv_bipush (v := 80) hx hb dX8_scan_133 (by decide) ?_
            refine lv_icmp_le (tgt := 141) hx hb dX8_scan_135 (by decide) (fun c_135 => ?_) (fun c_135 => ?_)
            · have hs := hs.1 c_135
              refine lv_aload_n hx hb dX8_scan_141 rfl (lv_at hl 3 rfl) ?_
              refine lv_aload_n hx hb dX8_scan_142 rfl (lv_at hl 3 rfl) ?_
              refine va_get (D := D) (ci := 8) (v := .ref (M 1)) (C := RX8) (T := TX8) (N := 13) hx hb hts iw_X8_scan_8 hown hK hP 0 rfl rfl 0 (by decide) (hts (.fieldLink RX8 7 "LeafTurnerModel" "now" "[I") (by decide +kernel)) (fun _ h9 => h9) rfl dX8_scan_143 ?_
              have ho_146 := hs.1; have hs := hs.2
              have hPc := hP.sub (ws' := lt_Md yI yC M i a0) [0, 1, 2, 3, 4, 5, 6, 7, 8] rfl
              have hDc := hD.sub (ws' := lt_Md yI yC M i a0) [0, 1, 2, 3, 4, 5, 6, 7, 8] (by decide) rfl
              refine lt_cWv (wc := lt_Md yI yC M i a0) (wr := []) (va_runV (As := [.ref (M 1)]) (rest := []) ⟨hx, hb, hml, hown, hts⟩ (c_X8_records l D yI yC yO M i a0 _ ho_146) (cwV 1 hts gX8_scan_X8_records rfl rfl rfl (by decide +kernel) ⟨Nat.le_of_ble_eq_true rfl, Nat.le_of_ble_eq_true rfl⟩) (lt_qV hK0 hPc hDc (va_recv hK hPc (ci := 8) (q0 := 0) rfl rfl)) rfl rfl hl.1 rfl (lv_room (Nat.le_of_ble_eq_true rfl)) dX8_scan_146 ⟨Nat.zero_le _, Nat.zero_le _⟩) hP hD hS hA [0, 1, 2, 3, 4, 5, 6, 7, 8] [] rfl rfl (by decide) (by decide) (fun x_146 e_x_146 H locs hP hD hS => ?_)
              have hP := hP.sub (ws' := lt_Md yI yC M x_146.1 x_146.2) [0, 1, 2, 3, 4, 5, 6, 7, 8] rfl
              have hD := hD.sub (ws' := lt_Md yI yC M x_146.1 x_146.2) [0, 1, 2, 3, 4, 5, 6, 7, 8] (by decide) rfl
              have hs := hs x_146 e_x_146
              refine lv_aload_n hx hb dX8_scan_149 rfl (lv_at hl 3 rfl) ?_
              refine va_get (D := D) (ci := 8) (v := .ref (M 2)) (C := RX8) (T := TX8) (N := 13) hx hb hts iw_X8_scan_8 hown hK hP 0 rfl rfl 1 (by decide) (hts (.fieldLink RX8 13 "LeafTurnerModel" "then" "[I") (by decide +kernel)) (fun _ h9 => h9) rfl dX8_scan_150 ?_
              refine lv_iconst (v := 0) hx hb dX8_scan_153 (by decide) ?_
              refine lv_aload_n hx hb dX8_scan_154 rfl (lv_at hl 3 rfl) ?_
              refine va_get (D := D) (ci := 8) (v := .ref (M 1)) (C := RX8) (T := TX8) (N := 13) hx hb hts iw_X8_scan_8 hown hK hP 0 rfl rfl 0 (by decide) (hts (.fieldLink RX8 7 "LeafTurnerModel" "now" "[I") (by decide +kernel)) (fun _ h9 => h9) rfl dX8_scan_155 ?_
              refine lv_iconst (v := 0) hx hb dX8_scan_158 (by decide) ?_
              have ho_159 := hs.1; have hs := hs.2
              have hPc := hP.sub (ws' := lt_Ro yI (M 2) 532 (x_146.2 1) ++ lt_Ro yI (M 1) 532 (x_146.2 0)) [2, 1] rfl
              have hDc := hD.sub (ws' := lt_Ro yI (M 2) 532 (x_146.2 1) ++ lt_Ro yI (M 1) 532 (x_146.2 0)) [2, 1] (by decide) rfl
              refine lt_cWv (wc := lt_Ro yI (M 2) 532 (x_146.2 1) ++ lt_Ro yI (M 1) 532 (x_146.2 0)) (wr := [(M 0, .inr (8, [.ref (M 1), .ref (M 2), .ref (M 3), .int (x_146.1 0), .ref (M 4), .int (x_146.1 1), .ref (M 5), .int (x_146.1 2), .ref (M 6), .ref (M 7), .int (x_146.1 3), .ref (M 8), .int (x_146.1 4)])), (M 3, .inl (yI, 2128, .inl (x_146.2 2))), (M 4, .inl (yI, 532, .inl (x_146.2 3))), (M 5, .inl (yC, 60, .inl (x_146.2 4))), (M 6, .inl (yI, 80, .inl (x_146.2 5))), (M 7, .inl (yI, 60, .inl (x_146.2 6))), (M 8, .inl (yI, 93, .inl (x_146.2 7)))]) (va_runS (As := [.ref (M 2), .int 0, .ref (M 1), .int 0]) (rest := []) ⟨hx, hb, hml, hown, hts⟩ (c_X8_lays l D yI yC yO (M 2) 532 (M 1) 532 (x_146.2 1) (x_146.2 0) 0 0 _ ho_159) (va_cwS 4 hts gX8_scan_X8_lays rfl rfl rfl (by decide +kernel) ⟨Nat.le_of_ble_eq_true rfl, Nat.le_of_ble_eq_true rfl⟩) (lt_qS hK0 hPc hDc) rfl rfl hl.1 rfl (lv_room (Nat.le_of_ble_eq_true rfl)) dX8_scan_159 ⟨Nat.zero_le _, Nat.zero_le _⟩) hP hD hS hA [2, 1] [0, 3, 4, 5, 6, 7, 8] rfl rfl (by decide) (by decide) (fun x_159 e_x_159 H locs hP hD hS => ?_)
              have hP := hP.sub (ws' := lt_Md yI yC M x_146.1 (va_up x_146.2 0 x_159)) [0, 8, 7, 1, 2, 3, 4, 5, 6] rfl
              have hD := hD.sub (ws' := lt_Md yI yC M x_146.1 (va_up x_146.2 0 x_159)) [0, 8, 7, 1, 2, 3, 4, 5, 6] (by decide) rfl
              have hs := hs x_159 e_x_159
              refine lv_iload_n hx hb dX8_scan_162 rfl (lv_at hl 0 rfl) ?_
              exact W.iret (v := (v2 + 0)) hx hb hret (fun t ht hW => ⟨⟨(v2 + 0), (x_146.1, (va_up x_146.2 0 x_159)), rfl, (by subst e_x_159 e_x_146; exact (Eq.trans (Eq.symm (Eq.trans (if_pos c_48) (Eq.trans (if_neg c_105) (Eq.trans (if_pos c_135) rfl)))) hT)), by rw [ht]; exact hP, hD⟩, hS.F ht⟩) hS.2.2 dX8_scan_163
            · have hs := hs.2 c_135
              refine lv_bipush (v := (-3)) hx hb dX8_scan_138 (by decide) ?_
              exact W.iret (v := (-3)) hx hb hret (fun t ht hW => ⟨⟨(-3), (i, a0), rfl, (Eq.trans (Eq.symm (Eq.trans (if_pos c_48) (Eq.trans (if_neg c_105) (Eq.trans (if_neg c_135) rfl)))) hT), by rw [ht]; exact hP, hD⟩, hS.F ht⟩) hS.2.2 dX8_scan_140
          · have hs := hs.1 c_105
            refine lv_iload_n hx hb dX8_scan_108 rfl (lv_at hl 1 rfl) ?_
            refine lv_if_lt (tgt := 122) hx hb dX8_scan_109 (by decide) (fun c_109 => ?_) (fun c_109 => ?_)
            · have hs := hs.1 c_109
              refine lv_iconst (v := 0) hx hb dX8_scan_122 (by decide) ?_
              refine lv_iadd hx hb dX8_scan_123 ?_
              refine lv_istore_n (lv' := [(2, .int (v2 + 0)), (4, .int v4), (3, .int v3), (0, .ref (M 0)), (1, .int p0)]) hx hb dX8_scan_124 rfl hl (by decide) rfl (fun ls hl => ?_)
              refine lv_aload_n hx hb dX8_scan_125 rfl (lv_at hl 3 rfl) ?_
              refine va_get (D := D) (ci := 8) (v := .ref (M 1)) (C := RX8) (T := TX8) (N := 13) hx hb hts iw_X8_scan_8 hown hK hP 0 rfl rfl 0 (by decide) (hts (.fieldLink RX8 7 "LeafTurnerModel" "now" "[I") (by decide +kernel)) (fun _ h9 => h9) rfl dX8_scan_126 ?_
              refine lv_iconst (v := 2) hx hb dX8_scan_129 (by decide) ?_
              refine va_iald hx hb hK hP 1 0 rfl rfl (i := 2) (vp_in_iff.mpr (by decide)) dX8_scan_130 ?_
              refine lt_top (y := ((a0 0) 2)) rfl ?_
              refine lv_iload_n hx hb dX8_scan_131 rfl (lv_at hl 0 rfl) ?_
              refine lv_iadd hx hb dX8_scan_132 ?_
              refine lv_bipush (v := 80) hx hb dX8_scan_133 (by decide) ?_
              refine lv_icmp_le (tgt := 141) hx hb dX8_scan_135 (by decide) (fun c_135 => ?_) (fun c_135 => ?_)
              · have hs := hs.1 c_135
                refine lv_aload_n hx hb dX8_scan_141 rfl (lv_at hl 3 rfl) ?_
                refine lv_aload_n hx hb dX8_scan_142 rfl (lv_at hl 3 rfl) ?_
                refine va_get (D := D) (ci := 8) (v := .ref (M 1)) (C := RX8) (T := TX8) (N := 13) hx hb hts iw_X8_scan_8 hown hK hP 0 rfl rfl 0 (by decide) (hts (.fieldLink RX8 7 "LeafTurnerModel" "now" "[I") (by decide +kernel)) (fun _ h9 => h9) rfl dX8_scan_143 ?_
                have ho_146 := hs.1; have hs := hs.2
                have hPc := hP.sub (ws' := lt_Md yI yC M i a0) [0, 1, 2, 3, 4, 5, 6, 7, 8] rfl
                have hDc := hD.sub (ws' := lt_Md yI yC M i a0) [0, 1, 2, 3, 4, 5, 6, 7, 8] (by decide) rfl
                refine lt_cWv (wc := lt_Md yI yC M i a0) (wr := []) (va_runV (As := [.ref (M 1)]) (rest := []) ⟨hx, hb, hml, hown, hts⟩ (c_X8_records l D yI yC yO M i a0 _ ho_146) (cwV 1 hts gX8_scan_X8_records rfl rfl rfl (by decide +kernel) ⟨Nat.le_of_ble_eq_true rfl, Nat.le_of_ble_eq_true rfl⟩) (lt_qV hK0 hPc hDc (va_recv hK hPc (ci := 8) (q0 := 0) rfl rfl)) rfl rfl hl.1 rfl (lv_room (Nat.le_of_ble_eq_true rfl)) dX8_scan_146 ⟨Nat.zero_le _, Nat.zero_le _⟩) hP hD hS hA [0, 1, 2, 3, 4, 5, 6, 7, 8] [] rfl rfl (by decide) (by decide) (fun x_146 e_x_146 H locs hP hD hS => ?_)
                have hP := hP.sub (ws' := lt_Md yI yC M x_146.1 x_146.2) [0, 1, 2, 3, 4, 5, 6, 7, 8] rfl
                have hD := hD.sub (ws' := lt_Md yI yC M x_146.1 x_146.2) [0, 1, 2, 3, 4, 5, 6, 7, 8] (by decide) rfl
                have hs := hs x_146 e_x_146
                refine lv_aload_n hx hb dX8_scan_149 rfl (lv_at hl 3 rfl) ?_
                refine va_get (D := D) (ci := 8) (v := .ref (M 2)) (C := RX8) (T := TX8) (N := 13) hx hb hts iw_X8_scan_8 hown hK hP 0 rfl rfl 1 (by decide) (hts (.fieldLink RX8 13 "LeafTurnerModel" "then" "[I") (by decide +kernel)) (fun _ h9 => h9) rfl dX8_scan_150 ?_
                refine lv_iconst (v := 0) hx hb dX8_scan_153 (by decide) ?_
                refine lv_aload_n hx hb dX8_scan_154 rfl (lv_at hl 3 rfl) ?_
                refine va_get (D := D) (ci := 8) (v := .ref (M 1)) (C := RX8) (T := TX8) (N := 13) hx hb hts iw_X8_scan_8 hown hK hP 0 rfl rfl 0 (by decide) (hts (.fieldLink RX8 7 "LeafTurnerModel" "now" "[I") (by decide +kernel)) (fun _ h9 => h9) rfl dX8_scan_155 ?_
                refine lv_iconst (v := 0) hx hb dX8_scan_158 (by decide) ?_
                have ho_159 := hs.1; have hs := hs.2
                have hPc := hP.sub (ws' := lt_Ro yI (M 2) 532 (x_146.2 1) ++ lt_Ro yI (M 1) 532 (x_146.2 0)) [2, 1] rfl
                have hDc := hD.sub (ws' := lt_Ro yI (M 2) 532 (x_146.2 1) ++ lt_Ro yI (M 1) 532 (x_146.2 0)) [2, 1] (by decide) rfl
                refine lt_cWv (wc := lt_Ro yI (M 2) 532 (x_146.2 1) ++ lt_Ro yI (M 1) 532 (x_146.2 0)) (wr := [(M 0, .inr (8, [.ref (M 1), .ref (M 2), .ref (M 3), .int (x_146.1 0), .ref (M 4), .int (x_146.1 1), .ref (M 5), .int (x_146.1 2), .ref (M 6), .ref (M 7), .int (x_146.1 3), .ref (M 8), .int (x_146.1 4)])), (M 3, .inl (yI, 2128, .inl (x_146.2 2))), (M 4, .inl (yI, 532, .inl (x_146.2 3))), (M 5, .inl (yC, 60, .inl (x_146.2 4))), (M 6, .inl (yI, 80, .inl (x_146.2 5))), (M 7, .inl (yI, 60, .inl (x_146.2 6))), (M 8, .inl (yI, 93, .inl (x_146.2 7)))]) (va_runS (As := [.ref (M 2), .int 0, .ref (M 1), .int 0]) (rest := []) ⟨hx, hb, hml, hown, hts⟩ (c_X8_lays l D yI yC yO (M 2) 532 (M 1) 532 (x_146.2 1) (x_146.2 0) 0 0 _ ho_159) (va_cwS 4 hts gX8_scan_X8_lays rfl rfl rfl (by decide +kernel) ⟨Nat.le_of_ble_eq_true rfl, Nat.le_of_ble_eq_true rfl⟩) (lt_qS hK0 hPc hDc) rfl rfl hl.1 rfl (lv_room (Nat.le_of_ble_eq_true rfl)) dX8_scan_159 ⟨Nat.zero_le _, Nat.zero_le _⟩) hP hD hS hA [2, 1] [0, 3, 4, 5, 6, 7, 8] rfl rfl (by decide) (by decide) (fun x_159 e_x_159 H locs hP hD hS => ?_)
                have hP := hP.sub (ws' := lt_Md yI yC M x_146.1 (va_up x_146.2 0 x_159)) [0, 8, 7, 1, 2, 3, 4, 5, 6] rfl
                have hD := hD.sub (ws' := lt_Md yI yC M x_146.1 (va_up x_146.2 0 x_159)) [0, 8, 7, 1, 2, 3, 4, 5, 6] (by decide) rfl
                have hs := hs x_159 e_x_159
                refine lv_iload_n hx hb dX8_scan_162 rfl (lv_at hl 0 rfl) ?_
                exact W.iret (v := (v2 + 0)) hx hb hret (fun t ht hW => ⟨⟨(v2 + 0), (x_146.1, (va_up x_146.2 0 x_159)), rfl, (by subst e_x_159 e_x_146; exact (Eq.trans (Eq.symm (Eq.trans (if_pos c_48) (Eq.trans (if_pos c_105) (Eq.trans (if_pos c_109) (Eq.trans (if_pos c_135) rfl))))) hT)), by rw [ht]; exact hP, hD⟩, hS.F ht⟩) hS.2.2 dX8_scan_163
              · have hs := hs.2 c_135
                refine lv_bipush (v := (-3)) hx hb dX8_scan_138 (by decide) ?_
                exact W.iret (v := (-3)) hx hb hret (fun t ht hW => ⟨⟨(-3), (i, a0), rfl, (Eq.trans (Eq.symm (Eq.trans (if_pos c_48) (Eq.trans (if_pos c_105) (Eq.trans (if_pos c_109) (Eq.trans (if_neg c_135) rfl))))) hT), by rw [ht]; exact hP, hD⟩, hS.F ht⟩) hS.2.2 dX8_scan_140
            · have hs := hs.2 c_109
              refine lv_aload_n hx hb dX8_scan_112 rfl (lv_at hl 3 rfl) ?_
              refine va_get (D := D) (ci := 8) (v := .ref (M 2)) (C := RX8) (T := TX8) (N := 13) hx hb hts iw_X8_scan_8 hown hK hP 0 rfl rfl 1 (by decide) (hts (.fieldLink RX8 13 "LeafTurnerModel" "then" "[I") (by decide +kernel)) (fun _ h9 => h9) rfl dX8_scan_113 ?_
              have ho_116 := hs.1; have hs := hs.2
              have hPc := hP.sub (ws' := lt_Ro yI (M 2) 532 (a0 1)) [2] rfl
              have hDc := hD.sub (ws' := lt_Ro yI (M 2) 532 (a0 1)) [2] (by decide) rfl
              refine lt_cWi (wc := lt_Ro yI (M 2) 532 (a0 1)) (wr := [(M 0, .inr (8, [.ref (M 1), .ref (M 2), .ref (M 3), .int (i 0), .ref (M 4), .int (i 1), .ref (M 5), .int (i 2), .ref (M 6), .ref (M 7), .int (i 3), .ref (M 8), .int (i 4)])), (M 1, .inl (yI, 532, .inl (a0 0))), (M 3, .inl (yI, 2128, .inl (a0 2))), (M 4, .inl (yI, 532, .inl (a0 3))), (M 5, .inl (yC, 60, .inl (a0 4))), (M 6, .inl (yI, 80, .inl (a0 5))), (M 7, .inl (yI, 60, .inl (a0 6))), (M 8, .inl (yI, 93, .inl (a0 7)))]) (va_runS (As := [.ref (M 2)]) (rest := [.int v2]) ⟨hx, hb, hml, hown, hts⟩ (c_X8_shots l D yI yC yO (M 2) (a0 1) _ ho_116) (va_cwS 1 hts gX8_scan_X8_shots rfl rfl rfl (by decide +kernel) ⟨Nat.le_of_ble_eq_true rfl, Nat.le_of_ble_eq_true rfl⟩) (lt_qS hK0 hPc hDc) rfl rfl hl.1 rfl (lv_room (Nat.le_of_ble_eq_true rfl)) dX8_scan_116 ⟨Nat.zero_le _, Nat.zero_le _⟩) hP hD hS hA [2] [0, 1, 3, 4, 5, 6, 7, 8] rfl rfl (by decide) (by decide) (fun x_116 e_x_116 H locs hP hD hS => ?_)
              have hP := hP.sub (ws' := lt_Md yI yC M i (va_up a0 1 x_116.2)) [0, 1, 8, 2, 3, 4, 5, 6, 7] rfl
              have hD := hD.sub (ws' := lt_Md yI yC M i (va_up a0 1 x_116.2)) [0, 1, 8, 2, 3, 4, 5, 6, 7] (by decide) rfl
              have hs := hs x_116 e_x_116
              refine lv_goto (tgt := 123) hx hb dX8_scan_119 (by decide) ?_
              refine lv_iadd hx hb dX8_scan_123 ?_
              refine lv_istore_n (lv' := [(2, .int (v2 + x_116.1)), (4, .int v4), (3, .int v3), (0, .ref (M 0)), (1, .int p0)]) hx hb dX8_scan_124 rfl hl (by decide) rfl (fun ls hl => ?_)
              refine lv_aload_n hx hb dX8_scan_125 rfl (lv_at hl 3 rfl) ?_
              refine va_get (D := D) (ci := 8) (v := .ref (M 1)) (C := RX8) (T := TX8) (N := 13) hx hb hts iw_X8_scan_8 hown hK hP 0 rfl rfl 0 (by decide) (hts (.fieldLink RX8 7 "LeafTurnerModel" "now" "[I") (by decide +kernel)) (fun _ h9 => h9) rfl dX8_scan_126 ?_
              refine lv_iconst (v := 2) hx hb dX8_scan_129 (by decide) ?_
              refine va_iald hx hb hK hP 1 0 rfl rfl (i := 2) (vp_in_iff.mpr (by decide)) dX8_scan_130 ?_
              refine lt_top (y := ((a0 0) 2)) rfl ?_
              refine lv_iload_n hx hb dX8_scan_131 rfl (lv_at hl 0 rfl) ?_
              refine lv_iadd hx hb dX8_scan_132 ?_
              refine lv_bipush (v := 80) hx hb dX8_scan_133 (by decide) ?_
              refine lv_icmp_le (tgt := 141) hx hb dX8_scan_135 (by decide) (fun c_135 => ?_) (fun c_135 => ?_)
              · have hs := hs.1 c_135
                refine lv_aload_n hx hb dX8_scan_141 rfl (lv_at hl 3 rfl) ?_
                refine lv_aload_n hx hb dX8_scan_142 rfl (lv_at hl 3 rfl) ?_
                refine va_get (D := D) (ci := 8) (v := .ref (M 1)) (C := RX8) (T := TX8) (N := 13) hx hb hts iw_X8_scan_8 hown hK hP 0 rfl rfl 0 (by decide) (hts (.fieldLink RX8 7 "LeafTurnerModel" "now" "[I") (by decide +kernel)) (fun _ h9 => h9) rfl dX8_scan_143 ?_
                have ho_146 := hs.1; have hs := hs.2
                have hPc := hP.sub (ws' := lt_Md yI yC M i (va_up a0 1 x_116.2)) [0, 1, 2, 3, 4, 5, 6, 7, 8] rfl
                have hDc := hD.sub (ws' := lt_Md yI yC M i (va_up a0 1 x_116.2)) [0, 1, 2, 3, 4, 5, 6, 7, 8] (by decide) rfl
                refine lt_cWv (wc := lt_Md yI yC M i (va_up a0 1 x_116.2)) (wr := []) (va_runV (As := [.ref (M 1)]) (rest := []) ⟨hx, hb, hml, hown, hts⟩ (c_X8_records l D yI yC yO M i (va_up a0 1 x_116.2) _ ho_146) (cwV 1 hts gX8_scan_X8_records rfl rfl rfl (by decide +kernel) ⟨Nat.le_of_ble_eq_true rfl, Nat.le_of_ble_eq_true rfl⟩) (lt_qV hK0 hPc hDc (va_recv hK hPc (ci := 8) (q0 := 0) rfl rfl)) rfl rfl hl.1 rfl (lv_room (Nat.le_of_ble_eq_true rfl)) dX8_scan_146 ⟨Nat.zero_le _, Nat.zero_le _⟩) hP hD hS hA [0, 1, 2, 3, 4, 5, 6, 7, 8] [] rfl rfl (by decide) (by decide) (fun x_146 e_x_146 H locs hP hD hS => ?_)
                have hP := hP.sub (ws' := lt_Md yI yC M x_146.1 x_146.2) [0, 1, 2, 3, 4, 5, 6, 7, 8] rfl
                have hD := hD.sub (ws' := lt_Md yI yC M x_146.1 x_146.2) [0, 1, 2, 3, 4, 5, 6, 7, 8] (by decide) rfl
                have hs := hs x_146 e_x_146
                refine lv_aload_n hx hb dX8_scan_149 rfl (lv_at hl 3 rfl) ?_
                refine va_get (D := D) (ci := 8) (v := .ref (M 2)) (C := RX8) (T := TX8) (N := 13) hx hb hts iw_X8_scan_8 hown hK hP 0 rfl rfl 1 (by decide) (hts (.fieldLink RX8 13 "LeafTurnerModel" "then" "[I") (by decide +kernel)) (fun _ h9 => h9) rfl dX8_scan_150 ?_
                refine lv_iconst (v := 0) hx hb dX8_scan_153 (by decide) ?_
                refine lv_aload_n hx hb dX8_scan_154 rfl (lv_at hl 3 rfl) ?_
                refine va_get (D := D) (ci := 8) (v := .ref (M 1)) (C := RX8) (T := TX8) (N := 13) hx hb hts iw_X8_scan_8 hown hK hP 0 rfl rfl 0 (by decide) (hts (.fieldLink RX8 7 "LeafTurnerModel" "now" "[I") (by decide +kernel)) (fun _ h9 => h9) rfl dX8_scan_155 ?_
                refine lv_iconst (v := 0) hx hb dX8_scan_158 (by decide) ?_
                have ho_159 := hs.1; have hs := hs.2
                have hPc := hP.sub (ws' := lt_Ro yI (M 2) 532 (x_146.2 1) ++ lt_Ro yI (M 1) 532 (x_146.2 0)) [2, 1] rfl
                have hDc := hD.sub (ws' := lt_Ro yI (M 2) 532 (x_146.2 1) ++ lt_Ro yI (M 1) 532 (x_146.2 0)) [2, 1] (by decide) rfl
                refine lt_cWv (wc := lt_Ro yI (M 2) 532 (x_146.2 1) ++ lt_Ro yI (M 1) 532 (x_146.2 0)) (wr := [(M 0, .inr (8, [.ref (M 1), .ref (M 2), .ref (M 3), .int (x_146.1 0), .ref (M 4), .int (x_146.1 1), .ref (M 5), .int (x_146.1 2), .ref (M 6), .ref (M 7), .int (x_146.1 3), .ref (M 8), .int (x_146.1 4)])), (M 3, .inl (yI, 2128, .inl (x_146.2 2))), (M 4, .inl (yI, 532, .inl (x_146.2 3))), (M 5, .inl (yC, 60, .inl (x_146.2 4))), (M 6, .inl (yI, 80, .inl (x_146.2 5))), (M 7, .inl (yI, 60, .inl (x_146.2 6))), (M 8, .inl (yI, 93, .inl (x_146.2 7)))]) (va_runS (As := [.ref (M 2), .int 0, .ref (M 1), .int 0]) (rest := []) ⟨hx, hb, hml, hown, hts⟩ (c_X8_lays l D yI yC yO (M 2) 532 (M 1) 532 (x_146.2 1) (x_146.2 0) 0 0 _ ho_159) (va_cwS 4 hts gX8_scan_X8_lays rfl rfl rfl (by decide +kernel) ⟨Nat.le_of_ble_eq_true rfl, Nat.le_of_ble_eq_true rfl⟩) (lt_qS hK0 hPc hDc) rfl rfl hl.1 rfl (lv_room (Nat.le_of_ble_eq_true rfl)) dX8_scan_159 ⟨Nat.zero_le _, Nat.zero_le _⟩) hP hD hS hA [2, 1] [0, 3, 4, 5, 6, 7, 8] rfl rfl (by decide) (by decide) (fun x_159 e_x_159 H locs hP hD hS => ?_)
                have hP := hP.sub (ws' := lt_Md yI yC M x_146.1 (va_up x_146.2 0 x_159)) [0, 8, 7, 1, 2, 3, 4, 5, 6] rfl
                have hD := hD.sub (ws' := lt_Md yI yC M x_146.1 (va_up x_146.2 0 x_159)) [0, 8, 7, 1, 2, 3, 4, 5, 6] (by decide) rfl
                have hs := hs x_159 e_x_159
                refine lv_iload_n hx hb dX8_scan_162 rfl (lv_at hl 0 rfl) ?_
                exact W.iret (v := (v2 + x_116.1)) hx hb hret (fun t ht hW => ⟨⟨(v2 + x_116.1), (x_146.1, (va_up x_146.2 0 x_159)), rfl, (by subst e_x_159 e_x_146 e_x_116; exact (Eq.trans (Eq.symm (Eq.trans (if_pos c_48) (Eq.trans (if_pos c_105) (Eq.trans (if_neg c_109) (Eq.trans (if_pos c_135) rfl))))) hT)), by rw [ht]; exact hP, hD⟩, hS.F ht⟩) hS.2.2 dX8_scan_163
              · have hs := hs.2 c_135
                refine lv_bipush (v := (-3)) hx hb dX8_scan_138 (by decide) ?_
                exact W.iret (v := (-3)) hx hb hret (fun t ht hW => ⟨⟨(-3), (i, (va_up a0 1 x_116.2)), rfl, (by subst e_x_116; exact (Eq.trans (Eq.symm (Eq.trans (if_pos c_48) (Eq.trans (if_pos c_105) (Eq.trans (if_neg c_109) (Eq.trans (if_neg c_135) rfl))))) hT)), by rw [ht]; exact hP, hD⟩, hS.F ht⟩) hS.2.2 dX8_scan_140
        · have hs := hs.2 c_48
          refine lv_aload_n hx hb dX8_scan_51 rfl (lv_at hl 3 rfl) ?_
          refine va_get (D := D) (ci := 8) (v := .ref (M 2)) (C := RX8) (T := TX8) (N := 13) hx hb hts iw_X8_scan_8 hown hK hP 0 rfl rfl 1 (by decide) (hts (.fieldLink RX8 13 "LeafTurnerModel" "then" "[I") (by decide +kernel)) (fun _ h9 => h9) rfl dX8_scan_52 ?_
          refine lv_iconst (v := 1) hx hb dX8_scan_55 (by decide) ?_
          refine va_iald hx hb hK hP 2 0 rfl rfl (i := 1) (vp_in_iff.mpr (by decide)) dX8_scan_56 ?_
          refine lt_top (y := ((a0 1) 1)) rfl ?_
          refine lv_aload_n hx hb dX8_scan_57 rfl (lv_at hl 3 rfl) ?_
          refine va_get (D := D) (ci := 8) (v := .ref (M 2)) (C := RX8) (T := TX8) (N := 13) hx hb hts iw_X8_scan_8 hown hK hP 0 rfl rfl 1 (by decide) (hts (.fieldLink RX8 13 "LeafTurnerModel" "then" "[I") (by decide +kernel)) (fun _ h9 => h9) rfl dX8_scan_58 ?_
          refine lv_iconst (v := 0) hx hb dX8_scan_61 (by decide) ?_
          refine va_iald hx hb hK hP 2 0 rfl rfl (i := 0) (vp_in_iff.mpr (by decide)) dX8_scan_62 ?_
          refine lt_top (y := ((a0 1) 0)) rfl ?_
          refine lv_icmp_ge (tgt := 92) hx hb dX8_scan_63 (by decide) (fun c_63 => ?_) (fun c_63 => ?_)
          · have hs := hs.1 c_63
            refine lv_iload_n hx hb dX8_scan_92 rfl (lv_at hl 2 rfl) ?_
            refine lv_aload_n hx hb dX8_scan_93 rfl (lv_at hl 3 rfl) ?_
            refine va_get (D := D) (ci := 8) (v := .ref (M 2)) (C := RX8) (T := TX8) (N := 13) hx hb hts iw_X8_scan_8 hown hK hP 0 rfl rfl 1 (by decide) (hts (.fieldLink RX8 13 "LeafTurnerModel" "then" "[I") (by decide +kernel)) (fun _ h9 => h9) rfl dX8_scan_94 ?_
            refine lv_iconst (v := 1) hx hb dX8_scan_97 (by decide) ?_
            refine va_iald hx hb hK hP 2 0 rfl rfl (i := 1) (vp_in_iff.mpr (by decide)) dX8_scan_98 ?_
            refine lt_top (y := ((a0 1) 1)) rfl ?_
            refine lv_aload_n hx hb dX8_scan_99 rfl (lv_at hl 3 rfl) ?_
            refine va_get (D := D) (ci := 8) (v := .ref (M 2)) (C := RX8) (T := TX8) (N := 13) hx hb hts iw_X8_scan_8 hown hK hP 0 rfl rfl 1 (by decide) (hts (.fieldLink RX8 13 "LeafTurnerModel" "then" "[I") (by decide +kernel)) (fun _ h9 => h9) rfl dX8_scan_100 ?_
            refine lv_iconst (v := 0) hx hb dX8_scan_103 (by decide) ?_
            refine va_iald hx hb hK hP 2 0 rfl rfl (i := 0) (vp_in_iff.mpr (by decide)) dX8_scan_104 ?_
            refine lt_top (y := ((a0 1) 0)) rfl ?_
            refine lv_icmp_ne (tgt := 122) hx hb dX8_scan_105 (by decide) (fun c_105 => ?_) (fun c_105 => ?_)
            · have hs := hs.2 c_105
              refine lv_iconst (v := 0) hx hb dX8_scan_122 (by decide) ?_
              refine lv_iadd hx hb dX8_scan_123 ?_
              refine lv_istore_n (lv' := [(2, .int (v2 + 0)), (4, .int v4), (3, .int v3), (0, .ref (M 0)), (1, .int p0)]) hx hb dX8_scan_124 rfl hl (by decide) rfl (fun ls hl => ?_)
              refine lv_aload_n hx hb dX8_scan_125 rfl (lv_at hl 3 rfl) ?_
              refine va_get (D := D) (ci := 8) (v := .ref (M 1)) (C := RX8) (T := TX8) (N := 13) hx hb hts iw_X8_scan_8 hown hK hP 0 rfl rfl 0 (by decide) (hts (.fieldLink RX8 7 "LeafTurnerModel" "now" "[I") (by decide +kernel)) (fun _ h9 => h9) rfl dX8_scan_126 ?_
              refine lv_iconst (v := 2) hx hb dX8_scan_129 (by decide) ?_
              refine va_iald hx hb hK hP 1 0 rfl rfl (i := 2) (vp_in_iff.mpr (by decide)) dX8_scan_130 ?_
              refine lt_top (y := ((a0 0) 2)) rfl ?_
              refine lv_iload_n hx hb dX8_scan_131 rfl (lv_at hl 0 rfl) ?_
              refine lv_iadd hx hb dX8_scan_132 ?_
              refine lv_bipush (v := 80) hx hb dX8_scan_133 (by decide) ?_
              refine lv_icmp_le (tgt := 141) hx hb dX8_scan_135 (by decide) (fun c_135 => ?_) (fun c_135 => ?_)
              · have hs := hs.1 c_135
                refine lv_aload_n hx hb dX8_scan_141 rfl (lv_at hl 3 rfl) ?_
                refine lv_aload_n hx hb dX8_scan_142 rfl (lv_at hl 3 rfl) ?_
                refine va_get (D := D) (ci := 8) (v := .ref (M 1)) (C := RX8) (T := TX8) (N := 13) hx hb hts iw_X8_scan_8 hown hK hP 0 rfl rfl 0 (by decide) (hts (.fieldLink RX8 7 "LeafTurnerModel" "now" "[I") (by decide +kernel)) (fun _ h9 => h9) rfl dX8_scan_143 ?_
                have ho_146 := hs.1; have hs := hs.2
                have hPc := hP.sub (ws' := lt_Md yI yC M i a0) [0, 1, 2, 3, 4, 5, 6, 7, 8] rfl
                have hDc := hD.sub (ws' := lt_Md yI yC M i a0) [0, 1, 2, 3, 4, 5, 6, 7, 8] (by decide) rfl
                refine lt_cWv (wc := lt_Md yI yC M i a0) (wr := []) (va_runV (As := [.ref (M 1)]) (rest := []) ⟨hx, hb, hml, hown, hts⟩ (c_X8_records l D yI yC yO M i a0 _ ho_146) (cwV 1 hts gX8_scan_X8_records rfl rfl rfl (by decide +kernel) ⟨Nat.le_of_ble_eq_true rfl, Nat.le_of_ble_eq_true rfl⟩) (lt_qV hK0 hPc hDc (va_recv hK hPc (ci := 8) (q0 := 0) rfl rfl)) rfl rfl hl.1 rfl (lv_room (Nat.le_of_ble_eq_true rfl)) dX8_scan_146 ⟨Nat.zero_le _, Nat.zero_le _⟩) hP hD hS hA [0, 1, 2, 3, 4, 5, 6, 7, 8] [] rfl rfl (by decide) (by decide) (fun x_146 e_x_146 H locs hP hD hS => ?_)
                have hP := hP.sub (ws' := lt_Md yI yC M x_146.1 x_146.2) [0, 1, 2, 3, 4, 5, 6, 7, 8] rfl
                have hD := hD.sub (ws' := lt_Md yI yC M x_146.1 x_146.2) [0, 1, 2, 3, 4, 5, 6, 7, 8] (by decide) rfl
                have hs := hs x_146 e_x_146
                refine lv_aload_n hx hb dX8_scan_149 rfl (lv_at hl 3 rfl) ?_
                refine va_get (D := D) (ci := 8) (v := .ref (M 2)) (C := RX8) (T := TX8) (N := 13) hx hb hts iw_X8_scan_8 hown hK hP 0 rfl rfl 1 (by decide) (hts (.fieldLink RX8 13 "LeafTurnerModel" "then" "[I") (by decide +kernel)) (fun _ h9 => h9) rfl dX8_scan_150 ?_
                refine lv_iconst (v := 0) hx hb dX8_scan_153 (by decide) ?_
                refine lv_aload_n hx hb dX8_scan_154 rfl (lv_at hl 3 rfl) ?_
                refine va_get (D := D) (ci := 8) (v := .ref (M 1)) (C := RX8) (T := TX8) (N := 13) hx hb hts iw_X8_scan_8 hown hK hP 0 rfl rfl 0 (by decide) (hts (.fieldLink RX8 7 "LeafTurnerModel" "now" "[I") (by decide +kernel)) (fun _ h9 => h9) rfl dX8_scan_155 ?_
                refine lv_iconst (v := 0) hx hb dX8_scan_158 (by decide) ?_
                have ho_159 := hs.1; have hs := hs.2
                have hPc := hP.sub (ws' := lt_Ro yI (M 2) 532 (x_146.2 1) ++ lt_Ro yI (M 1) 532 (x_146.2 0)) [2, 1] rfl
                have hDc := hD.sub (ws' := lt_Ro yI (M 2) 532 (x_146.2 1) ++ lt_Ro yI (M 1) 532 (x_146.2 0)) [2, 1] (by decide) rfl
                refine lt_cWv (wc := lt_Ro yI (M 2) 532 (x_146.2 1) ++ lt_Ro yI (M 1) 532 (x_146.2 0)) (wr := [(M 0, .inr (8, [.ref (M 1), .ref (M 2), .ref (M 3), .int (x_146.1 0), .ref (M 4), .int (x_146.1 1), .ref (M 5), .int (x_146.1 2), .ref (M 6), .ref (M 7), .int (x_146.1 3), .ref (M 8), .int (x_146.1 4)])), (M 3, .inl (yI, 2128, .inl (x_146.2 2))), (M 4, .inl (yI, 532, .inl (x_146.2 3))), (M 5, .inl (yC, 60, .inl (x_146.2 4))), (M 6, .inl (yI, 80, .inl (x_146.2 5))), (M 7, .inl (yI, 60, .inl (x_146.2 6))), (M 8, .inl (yI, 93, .inl (x_146.2 7)))]) (va_runS (As := [.ref (M 2), .int 0, .ref (M 1), .int 0]) (rest := []) ⟨hx, hb, hml, hown, hts⟩ (c_X8_lays l D yI yC yO (M 2) 532 (M 1) 532 (x_146.2 1) (x_146.2 0) 0 0 _ ho_159) (va_cwS 4 hts gX8_scan_X8_lays rfl rfl rfl (by decide +kernel) ⟨Nat.le_of_ble_eq_true rfl, Nat.le_of_ble_eq_true rfl⟩) (lt_qS hK0 hPc hDc) rfl rfl hl.1 rfl (lv_room (Nat.le_of_ble_eq_true rfl)) dX8_scan_159 ⟨Nat.zero_le _, Nat.zero_le _⟩) hP hD hS hA [2, 1] [0, 3, 4, 5, 6, 7, 8] rfl rfl (by decide) (by decide) (fun x_159 e_x_159 H locs hP hD hS => ?_)
                have hP := hP.sub (ws' := lt_Md yI yC M x_146.1 (va_up x_146.2 0 x_159)) [0, 8, 7, 1, 2, 3, 4, 5, 6] rfl
                have hD := hD.sub (ws' := lt_Md yI yC M x_146.1 (va_up x_146.2 0 x_159)) [0, 8, 7, 1, 2, 3, 4, 5, 6] (by decide) rfl
                have hs := hs x_159 e_x_159
                refine lv_iload_n hx hb dX8_scan_162 rfl (lv_at hl 0 rfl) ?_
                exact W.iret (v := (v2 + 0)) hx hb hret (fun t ht hW => ⟨⟨(v2 + 0), (x_146.1, (va_up x_146.2 0 x_159)), rfl, (by subst e_x_159 e_x_146; exact (Eq.trans (Eq.symm (Eq.trans (if_neg c_48) (Eq.trans (if_pos c_63) (Eq.trans (if_neg c_105) (Eq.trans (if_pos c_135) rfl))))) hT)), by rw [ht]; exact hP, hD⟩, hS.F ht⟩) hS.2.2 dX8_scan_163
              · have hs := hs.2 c_135
                refine lv_bipush (v := (-3)) hx hb dX8_scan_138 (by decide) ?_
                exact W.iret (v := (-3)) hx hb hret (fun t ht hW => ⟨⟨(-3), (i, a0), rfl, (Eq.trans (Eq.symm (Eq.trans (if_neg c_48) (Eq.trans (if_pos c_63) (Eq.trans (if_neg c_105) (Eq.trans (if_neg c_135) rfl))))) hT), by rw [ht]; exact hP, hD⟩, hS.F ht⟩) hS.2.2 dX8_scan_140
            · have hs := hs.1 c_105
              refine lv_iload_n hx hb dX8_scan_108 rfl (lv_at hl 1 rfl) ?_
              refine lv_if_lt (tgt := 122) hx hb dX8_scan_109 (by decide) (fun c_109 => ?_) (fun c_109 => ?_)
              · have hs := hs.1 c_109
                refine lv_iconst (v := 0) hx hb dX8_scan_122 (by decide) ?_
                refine lv_iadd hx hb dX8_scan_123 ?_
                refine lv_istore_n (lv' := [(2, .int (v2 + 0)), (4, .int v4), (3, .int v3), (0, .ref (M 0)), (1, .int p0)]) hx hb dX8_scan_124 rfl hl (by decide) rfl (fun ls hl => ?_)
                refine lv_aload_n hx hb dX8_scan_125 rfl (lv_at hl 3 rfl) ?_
                refine va_get (D := D) (ci := 8) (v := .ref (M 1)) (C := RX8) (T := TX8) (N := 13) hx hb hts iw_X8_scan_8 hown hK hP 0 rfl rfl 0 (by decide) (hts (.fieldLink RX8 7 "LeafTurnerModel" "now" "[I") (by decide +kernel)) (fun _ h9 => h9) rfl dX8_scan_126 ?_
                refine lv_iconst (v := 2) hx hb dX8_scan_129 (by decide) ?_
                refine va_iald hx hb hK hP 1 0 rfl rfl (i := 2) (vp_in_iff.mpr (by decide)) dX8_scan_130 ?_
                refine lt_top (y := ((a0 0) 2)) rfl ?_
                refine lv_iload_n hx hb dX8_scan_131 rfl (lv_at hl 0 rfl) ?_
                refine lv_iadd hx hb dX8_scan_132 ?_
                refine lv_bipush (v := 80) hx hb dX8_scan_133 (by decide) ?_
                refine lv_icmp_le (tgt := 141) hx hb dX8_scan_135 (by decide) (fun c_135 => ?_) (fun c_135 => ?_)
                · have hs := hs.1 c_135
                  refine lv_aload_n hx hb dX8_scan_141 rfl (lv_at hl 3 rfl) ?_
                  refine lv_aload_n hx hb dX8_scan_142 rfl (lv_at hl 3 rfl) ?_
                  refine va_get (D := D) (ci := 8) (v := .ref (M 1)) (C := RX8) (T := TX8) (N := 13) hx hb hts iw_X8_scan_8 hown hK hP 0 rfl rfl 0 (by decide) (hts (.fieldLink RX8 7 "LeafTurnerModel" "now" "[I") (by decide +kernel)) (fun _ h9 => h9) rfl dX8_scan_143 ?_
                  have ho_146 := hs.1; have hs := hs.2
                  have hPc := hP.sub (ws' := lt_Md yI yC M i a0) [0, 1, 2, 3, 4, 5, 6, 7, 8] rfl
                  have hDc := hD.sub (ws' := lt_Md yI yC M i a0) [0, 1, 2, 3, 4, 5, 6, 7, 8] (by decide) rfl
                  refine lt_cWv (wc := lt_Md yI yC M i a0) (wr := []) (va_runV (As := [.ref (M 1)]) (rest := []) ⟨hx, hb, hml, hown, hts⟩ (c_X8_records l D yI yC yO M i a0 _ ho_146) (cwV 1 hts gX8_scan_X8_records rfl rfl rfl (by decide +kernel) ⟨Nat.le_of_ble_eq_true rfl, Nat.le_of_ble_eq_true rfl⟩) (lt_qV hK0 hPc hDc (va_recv hK hPc (ci := 8) (q0 := 0) rfl rfl)) rfl rfl hl.1 rfl (lv_room (Nat.le_of_ble_eq_true rfl)) dX8_scan_146 ⟨Nat.zero_le _, Nat.zero_le _⟩) hP hD hS hA [0, 1, 2, 3, 4, 5, 6, 7, 8] [] rfl rfl (by decide) (by decide) (fun x_146 e_x_146 H locs hP hD hS => ?_)
                  have hP := hP.sub (ws' := lt_Md yI yC M x_146.1 x_146.2) [0, 1, 2, 3, 4, 5, 6, 7, 8] rfl
                  have hD := hD.sub (ws' := lt_Md yI yC M x_146.1 x_146.2) [0, 1, 2, 3, 4, 5, 6, 7, 8] (by decide) rfl
                  have hs := hs x_146 e_x_146
                  refine lv_aload_n hx hb dX8_scan_149 rfl (lv_at hl 3 rfl) ?_
                  refine va_get (D := D) (ci := 8) (v := .ref (M 2)) (C := RX8) (T := TX8) (N := 13) hx hb hts iw_X8_scan_8 hown hK hP 0 rfl rfl 1 (by decide) (hts (.fieldLink RX8 13 "LeafTurnerModel" "then" "[I") (by decide +kernel)) (fun _ h9 => h9) rfl dX8_scan_150 ?_
                  refine lv_iconst (v := 0) hx hb dX8_scan_153 (by decide) ?_
                  refine lv_aload_n hx hb dX8_scan_154 rfl (lv_at hl 3 rfl) ?_
                  refine va_get (D := D) (ci := 8) (v := .ref (M 1)) (C := RX8) (T := TX8) (N := 13) hx hb hts iw_X8_scan_8 hown hK hP 0 rfl rfl 0 (by decide) (hts (.fieldLink RX8 7 "LeafTurnerModel" "now" "[I") (by decide +kernel)) (fun _ h9 => h9) rfl dX8_scan_155 ?_
                  refine lv_iconst (v := 0) hx hb dX8_scan_158 (by decide) ?_
                  have ho_159 := hs.1; have hs := hs.2
                  have hPc := hP.sub (ws' := lt_Ro yI (M 2) 532 (x_146.2 1) ++ lt_Ro yI (M 1) 532 (x_146.2 0)) [2, 1] rfl
                  have hDc := hD.sub (ws' := lt_Ro yI (M 2) 532 (x_146.2 1) ++ lt_Ro yI (M 1) 532 (x_146.2 0)) [2, 1] (by decide) rfl
                  refine lt_cWv (wc := lt_Ro yI (M 2) 532 (x_146.2 1) ++ lt_Ro yI (M 1) 532 (x_146.2 0)) (wr := [(M 0, .inr (8, [.ref (M 1), .ref (M 2), .ref (M 3), .int (x_146.1 0), .ref (M 4), .int (x_146.1 1), .ref (M 5), .int (x_146.1 2), .ref (M 6), .ref (M 7), .int (x_146.1 3), .ref (M 8), .int (x_146.1 4)])), (M 3, .inl (yI, 2128, .inl (x_146.2 2))), (M 4, .inl (yI, 532, .inl (x_146.2 3))), (M 5, .inl (yC, 60, .inl (x_146.2 4))), (M 6, .inl (yI, 80, .inl (x_146.2 5))), (M 7, .inl (yI, 60, .inl (x_146.2 6))), (M 8, .inl (yI, 93, .inl (x_146.2 7)))]) (va_runS (As := [.ref (M 2), .int 0, .ref (M 1), .int 0]) (rest := []) ⟨hx, hb, hml, hown, hts⟩ (c_X8_lays l D yI yC yO (M 2) 532 (M 1) 532 (x_146.2 1) (x_146.2 0) 0 0 _ ho_159) (va_cwS 4 hts gX8_scan_X8_lays rfl rfl rfl (by decide +kernel) ⟨Nat.le_of_ble_eq_true rfl, Nat.le_of_ble_eq_true rfl⟩) (lt_qS hK0 hPc hDc) rfl rfl hl.1 rfl (lv_room (Nat.le_of_ble_eq_true rfl)) dX8_scan_159 ⟨Nat.zero_le _, Nat.zero_le _⟩) hP hD hS hA [2, 1] [0, 3, 4, 5, 6, 7, 8] rfl rfl (by decide) (by decide) (fun x_159 e_x_159 H locs hP hD hS => ?_)
                  have hP := hP.sub (ws' := lt_Md yI yC M x_146.1 (va_up x_146.2 0 x_159)) [0, 8, 7, 1, 2, 3, 4, 5, 6] rfl
                  have hD := hD.sub (ws' := lt_Md yI yC M x_146.1 (va_up x_146.2 0 x_159)) [0, 8, 7, 1, 2, 3, 4, 5, 6] (by decide) rfl
                  have hs := hs x_159 e_x_159
                  refine lv_iload_n hx hb dX8_scan_162 rfl (lv_at hl 0 rfl) ?_
                  exact W.iret (v := (v2 + 0)) hx hb hret (fun t ht hW => ⟨⟨(v2 + 0), (x_146.1, (va_up x_146.2 0 x_159)), rfl, (by subst e_x_159 e_x_146; exact (Eq.trans (Eq.symm (Eq.trans (if_neg c_48) (Eq.trans (if_pos c_63) (Eq.trans (if_pos c_105) (Eq.trans (if_pos c_109) (Eq.trans (if_pos c_135) rfl)))))) hT)), by rw [ht]; exact hP, hD⟩, hS.F ht⟩) hS.2.2 dX8_scan_163
                · have hs := hs.2 c_135
                  refine lv_bipush (v := (-3)) hx hb dX8_scan_138 (by decide) ?_
                  exact W.iret (v := (-3)) hx hb hret (fun t ht hW => ⟨⟨(-3), (i, a0), rfl, (Eq.trans (Eq.symm (Eq.trans (if_neg c_48) (Eq.trans (if_pos c_63) (Eq.trans (if_pos c_105) (Eq.trans (if_pos c_109) (Eq.trans (if_neg c_135) rfl)))))) hT), by rw [ht]; exact hP, hD⟩, hS.F ht⟩) hS.2.2 dX8_scan_140
              · have hs := hs.2 c_109
                refine lv_aload_n hx hb dX8_scan_112 rfl (lv_at hl 3 rfl) ?_
                refine va_get (D := D) (ci := 8) (v := .ref (M 2)) (C := RX8) (T := TX8) (N := 13) hx hb hts iw_X8_scan_8 hown hK hP 0 rfl rfl 1 (by decide) (hts (.fieldLink RX8 13 "LeafTurnerModel" "then" "[I") (by decide +kernel)) (fun _ h9 => h9) rfl dX8_scan_113 ?_
                have ho_116 := hs.1; have hs := hs.2
                have hPc := hP.sub (ws' := lt_Ro yI (M 2) 532 (a0 1)) [2] rfl
                have hDc := hD.sub (ws' := lt_Ro yI (M 2) 532 (a0 1)) [2] (by decide) rfl
                refine lt_cWi (wc := lt_Ro yI (M 2) 532 (a0 1)) (wr := [(M 0, .inr (8, [.ref (M 1), .ref (M 2), .ref (M 3), .int (i 0), .ref (M 4), .int (i 1), .ref (M 5), .int (i 2), .ref (M 6), .ref (M 7), .int (i 3), .ref (M 8), .int (i 4)])), (M 1, .inl (yI, 532, .inl (a0 0))), (M 3, .inl (yI, 2128, .inl (a0 2))), (M 4, .inl (yI, 532, .inl (a0 3))), (M 5, .inl (yC, 60, .inl (a0 4))), (M 6, .inl (yI, 80, .inl (a0 5))), (M 7, .inl (yI, 60, .inl (a0 6))), (M 8, .inl (yI, 93, .inl (a0 7)))]) (va_runS (As := [.ref (M 2)]) (rest := [.int v2]) ⟨hx, hb, hml, hown, hts⟩ (c_X8_shots l D yI yC yO (M 2) (a0 1) _ ho_116) (va_cwS 1 hts gX8_scan_X8_shots rfl rfl rfl (by decide +kernel) ⟨Nat.le_of_ble_eq_true rfl, Nat.le_of_ble_eq_true rfl⟩) (lt_qS hK0 hPc hDc) rfl rfl hl.1 rfl (lv_room (Nat.le_of_ble_eq_true rfl)) dX8_scan_116 ⟨Nat.zero_le _, Nat.zero_le _⟩) hP hD hS hA [2] [0, 1, 3, 4, 5, 6, 7, 8] rfl rfl (by decide) (by decide) (fun x_116 e_x_116 H locs hP hD hS => ?_)
                have hP := hP.sub (ws' := lt_Md yI yC M i (va_up a0 1 x_116.2)) [0, 1, 8, 2, 3, 4, 5, 6, 7] rfl
                have hD := hD.sub (ws' := lt_Md yI yC M i (va_up a0 1 x_116.2)) [0, 1, 8, 2, 3, 4, 5, 6, 7] (by decide) rfl
                have hs := hs x_116 e_x_116
                refine lv_goto (tgt := 123) hx hb dX8_scan_119 (by decide) ?_
                refine lv_iadd hx hb dX8_scan_123 ?_
                refine lv_istore_n (lv' := [(2, .int (v2 + x_116.1)), (4, .int v4), (3, .int v3), (0, .ref (M 0)), (1, .int p0)]) hx hb dX8_scan_124 rfl hl (by decide) rfl (fun ls hl => ?_)
                refine lv_aload_n hx hb dX8_scan_125 rfl (lv_at hl 3 rfl) ?_
                refine va_get (D := D) (ci := 8) (v := .ref (M 1)) (C := RX8) (T := TX8) (N := 13) hx hb hts iw_X8_scan_8 hown hK hP 0 rfl rfl 0 (by decide) (hts (.fieldLink RX8 7 "LeafTurnerModel" "now" "[I") (by decide +kernel)) (fun _ h9 => h9) rfl dX8_scan_126 ?_
                refine lv_iconst (v := 2) hx hb dX8_scan_129 (by decide) ?_
                refine va_iald hx hb hK hP 1 0 rfl rfl (i := 2) (vp_in_iff.mpr (by decide)) dX8_scan_130 ?_
                refine lt_top (y := ((a0 0) 2)) rfl ?_
                refine lv_iload_n hx hb dX8_scan_131 rfl (lv_at hl 0 rfl) ?_
                refine lv_iadd hx hb dX8_scan_132 ?_
                refine lv_bipush (v := 80) hx hb dX8_scan_133 (by decide) ?_
                refine lv_icmp_le (tgt := 141) hx hb dX8_scan_135 (by decide) (fun c_135 => ?_) (fun c_135 => ?_)
                · have hs := hs.1 c_135
                  refine lv_aload_n hx hb dX8_scan_141 rfl (lv_at hl 3 rfl) ?_
                  refine lv_aload_n hx hb dX8_scan_142 rfl (lv_at hl 3 rfl) ?_
                  refine va_get (D := D) (ci := 8) (v := .ref (M 1)) (C := RX8) (T := TX8) (N := 13) hx hb hts iw_X8_scan_8 hown hK hP 0 rfl rfl 0 (by decide) (hts (.fieldLink RX8 7 "LeafTurnerModel" "now" "[I") (by decide +kernel)) (fun _ h9 => h9) rfl dX8_scan_143 ?_
                  have ho_146 := hs.1; have hs := hs.2
                  have hPc := hP.sub (ws' := lt_Md yI yC M i (va_up a0 1 x_116.2)) [0, 1, 2, 3, 4, 5, 6, 7, 8] rfl
                  have hDc := hD.sub (ws' := lt_Md yI yC M i (va_up a0 1 x_116.2)) [0, 1, 2, 3, 4, 5, 6, 7, 8] (by decide) rfl
                  refine lt_cWv (wc := lt_Md yI yC M i (va_up a0 1 x_116.2)) (wr := []) (va_runV (As := [.ref (M 1)]) (rest := []) ⟨hx, hb, hml, hown, hts⟩ (c_X8_records l D yI yC yO M i (va_up a0 1 x_116.2) _ ho_146) (cwV 1 hts gX8_scan_X8_records rfl rfl rfl (by decide +kernel) ⟨Nat.le_of_ble_eq_true rfl, Nat.le_of_ble_eq_true rfl⟩) (lt_qV hK0 hPc hDc (va_recv hK hPc (ci := 8) (q0 := 0) rfl rfl)) rfl rfl hl.1 rfl (lv_room (Nat.le_of_ble_eq_true rfl)) dX8_scan_146 ⟨Nat.zero_le _, Nat.zero_le _⟩) hP hD hS hA [0, 1, 2, 3, 4, 5, 6, 7, 8] [] rfl rfl (by decide) (by decide) (fun x_146 e_x_146 H locs hP hD hS => ?_)
                  have hP := hP.sub (ws' := lt_Md yI yC M x_146.1 x_146.2) [0, 1, 2, 3, 4, 5, 6, 7, 8] rfl
                  have hD := hD.sub (ws' := lt_Md yI yC M x_146.1 x_146.2) [0, 1, 2, 3, 4, 5, 6, 7, 8] (by decide) rfl
                  have hs := hs x_146 e_x_146
                  refine lv_aload_n hx hb dX8_scan_149 rfl (lv_at hl 3 rfl) ?_
                  refine va_get (D := D) (ci := 8) (v := .ref (M 2)) (C := RX8) (T := TX8) (N := 13) hx hb hts iw_X8_scan_8 hown hK hP 0 rfl rfl 1 (by decide) (hts (.fieldLink RX8 13 "LeafTurnerModel" "then" "[I") (by decide +kernel)) (fun _ h9 => h9) rfl dX8_scan_150 ?_
                  refine lv_iconst (v := 0) hx hb dX8_scan_153 (by decide) ?_
                  refine lv_aload_n hx hb dX8_scan_154 rfl (lv_at hl 3 rfl) ?_
                  refine va_get (D := D) (ci := 8) (v := .ref (M 1)) (C := RX8) (T := TX8) (N := 13) hx hb hts iw_X8_scan_8 hown hK hP 0 rfl rfl 0 (by decide) (hts (.fieldLink RX8 7 "LeafTurnerModel" "now" "[I") (by decide +kernel)) (fun _ h9 => h9) rfl dX8_scan_155 ?_
                  refine lv_iconst (v := 0) hx hb dX8_scan_158 (by decide) ?_
                  have ho_159 := hs.1; have hs := hs.2
                  have hPc := hP.sub (ws' := lt_Ro yI (M 2) 532 (x_146.2 1) ++ lt_Ro yI (M 1) 532 (x_146.2 0)) [2, 1] rfl
                  have hDc := hD.sub (ws' := lt_Ro yI (M 2) 532 (x_146.2 1) ++ lt_Ro yI (M 1) 532 (x_146.2 0)) [2, 1] (by decide) rfl
                  refine lt_cWv (wc := lt_Ro yI (M 2) 532 (x_146.2 1) ++ lt_Ro yI (M 1) 532 (x_146.2 0)) (wr := [(M 0, .inr (8, [.ref (M 1), .ref (M 2), .ref (M 3), .int (x_146.1 0), .ref (M 4), .int (x_146.1 1), .ref (M 5), .int (x_146.1 2), .ref (M 6), .ref (M 7), .int (x_146.1 3), .ref (M 8), .int (x_146.1 4)])), (M 3, .inl (yI, 2128, .inl (x_146.2 2))), (M 4, .inl (yI, 532, .inl (x_146.2 3))), (M 5, .inl (yC, 60, .inl (x_146.2 4))), (M 6, .inl (yI, 80, .inl (x_146.2 5))), (M 7, .inl (yI, 60, .inl (x_146.2 6))), (M 8, .inl (yI, 93, .inl (x_146.2 7)))]) (va_runS (As := [.ref (M 2), .int 0, .ref (M 1), .int 0]) (rest := []) ⟨hx, hb, hml, hown, hts⟩ (c_X8_lays l D yI yC yO (M 2) 532 (M 1) 532 (x_146.2 1) (x_146.2 0) 0 0 _ ho_159) (va_cwS 4 hts gX8_scan_X8_lays rfl rfl rfl (by decide +kernel) ⟨Nat.le_of_ble_eq_true rfl, Nat.le_of_ble_eq_true rfl⟩) (lt_qS hK0 hPc hDc) rfl rfl hl.1 rfl (lv_room (Nat.le_of_ble_eq_true rfl)) dX8_scan_159 ⟨Nat.zero_le _, Nat.zero_le _⟩) hP hD hS hA [2, 1] [0, 3, 4, 5, 6, 7, 8] rfl rfl (by decide) (by decide) (fun x_159 e_x_159 H locs hP hD hS => ?_)
                  have hP := hP.sub (ws' := lt_Md yI yC M x_146.1 (va_up x_146.2 0 x_159)) [0, 8, 7, 1, 2, 3, 4, 5, 6] rfl
                  have hD := hD.sub (ws' := lt_Md yI yC M x_146.1 (va_up x_146.2 0 x_159)) [0, 8, 7, 1, 2, 3, 4, 5, 6] (by decide) rfl
                  have hs := hs x_159 e_x_159
                  refine lv_iload_n hx hb dX8_scan_162 rfl (lv_at hl 0 rfl) ?_
                  exact W.iret (v := (v2 + x_116.1)) hx hb hret (fun t ht hW => ⟨⟨(v2 + x_116.1), (x_146.1, (va_up x_146.2 0 x_159)), rfl, (by subst e_x_159 e_x_146 e_x_116; exact (Eq.trans (Eq.symm (Eq.trans (if_neg c_48) (Eq.trans (if_pos c_63) (Eq.trans (if_pos c_105) (Eq.trans (if_neg c_109) (Eq.trans (if_pos c_135) rfl)))))) hT)), by rw [ht]; exact hP, hD⟩, hS.F ht⟩) hS.2.2 dX8_scan_163
                · have hs := hs.2 c_135
                  refine lv_bipush (v := (-3)) hx hb dX8_scan_138 (by decide) ?_
                  exact W.iret (v := (-3)) hx hb hret (fun t ht hW => ⟨⟨(-3), (i, (va_up a0 1 x_116.2)), rfl, (by subst e_x_116; exact (Eq.trans (Eq.symm (Eq.trans (if_neg c_48) (Eq.trans (if_pos c_63) (Eq.trans (if_pos c_105) (Eq.trans (if_neg c_109) (Eq.trans (if_neg c_135) rfl)))))) hT)), by rw [ht]; exact hP, hD⟩, hS.F ht⟩) hS.2.2 dX8_scan_140
          · have hs := hs.2 c_63
            refine lv_iload_n hx hb dX8_scan_66 rfl (lv_at hl 2 rfl) ?_
            refine lv_aload_n hx hb dX8_scan_67 rfl (lv_at hl 3 rfl) ?_
            refine va_get (D := D) (ci := 8) (v := .ref (M 2)) (C := RX8) (T := TX8) (N := 13) hx hb hts iw_X8_scan_8 hown hK hP 0 rfl rfl 1 (by decide) (hts (.fieldLink RX8 13 "LeafTurnerModel" "then" "[I") (by decide +kernel)) (fun _ h9 => h9) rfl dX8_scan_68 ?_
            have ho_71 := hs.1; have hs := hs.2
            have hPc := hP.sub (ws' := lt_Ro yI (M 2) 532 (a0 1)) [2] rfl
            have hDc := hD.sub (ws' := lt_Ro yI (M 2) 532 (a0 1)) [2] (by decide) rfl
            refine lt_cWi (wc := lt_Ro yI (M 2) 532 (a0 1)) (wr := [(M 0, .inr (8, [.ref (M 1), .ref (M 2), .ref (M 3), .int (i 0), .ref (M 4), .int (i 1), .ref (M 5), .int (i 2), .ref (M 6), .ref (M 7), .int (i 3), .ref (M 8), .int (i 4)])), (M 1, .inl (yI, 532, .inl (a0 0))), (M 3, .inl (yI, 2128, .inl (a0 2))), (M 4, .inl (yI, 532, .inl (a0 3))), (M 5, .inl (yC, 60, .inl (a0 4))), (M 6, .inl (yI, 80, .inl (a0 5))), (M 7, .inl (yI, 60, .inl (a0 6))), (M 8, .inl (yI, 93, .inl (a0 7)))]) (va_runS (As := [.ref (M 2)]) (rest := [.int v2]) ⟨hx, hb, hml, hown, hts⟩ (c_X8_shots l D yI yC yO (M 2) (a0 1) _ ho_71) (va_cwS 1 hts gX8_scan_X8_shots rfl rfl rfl (by decide +kernel) ⟨Nat.le_of_ble_eq_true rfl, Nat.le_of_ble_eq_true rfl⟩) (lt_qS hK0 hPc hDc) rfl rfl hl.1 rfl (lv_room (Nat.le_of_ble_eq_true rfl)) dX8_scan_71 ⟨Nat.zero_le _, Nat.zero_le _⟩) hP hD hS hA [2] [0, 1, 3, 4, 5, 6, 7, 8] rfl rfl (by decide) (by decide) (fun x_71 e_x_71 H locs hP hD hS => ?_)
            have hP := hP.sub (ws' := lt_Md yI yC M i (va_up a0 1 x_71.2)) [0, 1, 8, 2, 3, 4, 5, 6, 7] rfl
            have hD := hD.sub (ws' := lt_Md yI yC M i (va_up a0 1 x_71.2)) [0, 1, 8, 2, 3, 4, 5, 6, 7] (by decide) rfl
            have hs := hs x_71 e_x_71
            refine lv_iadd hx hb dX8_scan_74 ?_
            refine lv_istore_n (lv' := [(2, .int (v2 + x_71.1)), (4, .int v4), (3, .int v3), (0, .ref (M 0)), (1, .int p0)]) hx hb dX8_scan_75 rfl hl (by decide) rfl (fun ls hl => ?_)
            refine lv_iload_n hx hb dX8_scan_76 rfl (lv_at hl 2 rfl) ?_
            refine lv_aload_n hx hb dX8_scan_77 rfl (lv_at hl 3 rfl) ?_
            refine va_get (D := D) (ci := 8) (v := .ref (M 2)) (C := RX8) (T := TX8) (N := 13) hx hb hts iw_X8_scan_8 hown hK hP 0 rfl rfl 1 (by decide) (hts (.fieldLink RX8 13 "LeafTurnerModel" "then" "[I") (by decide +kernel)) (fun _ h9 => h9) rfl dX8_scan_78 ?_
            have ho_81 := hs.1; have hs := hs.2
            have hPc := hP.sub (ws' := lt_Ro yI (M 2) 532 x_71.2) [2] rfl
            have hDc := hD.sub (ws' := lt_Ro yI (M 2) 532 x_71.2) [2] (by decide) rfl
            refine lt_cWi (wc := lt_Ro yI (M 2) 532 x_71.2) (wr := [(M 0, .inr (8, [.ref (M 1), .ref (M 2), .ref (M 3), .int (i 0), .ref (M 4), .int (i 1), .ref (M 5), .int (i 2), .ref (M 6), .ref (M 7), .int (i 3), .ref (M 8), .int (i 4)])), (M 1, .inl (yI, 532, .inl (a0 0))), (M 3, .inl (yI, 2128, .inl (a0 2))), (M 4, .inl (yI, 532, .inl (a0 3))), (M 5, .inl (yC, 60, .inl (a0 4))), (M 6, .inl (yI, 80, .inl (a0 5))), (M 7, .inl (yI, 60, .inl (a0 6))), (M 8, .inl (yI, 93, .inl (a0 7)))]) (va_runS (As := [.ref (M 2)]) (rest := [.int v3]) ⟨hx, hb, hml, hown, hts⟩ (c_X8_turns l D yI yC yO (M 2) x_71.2 _ ho_81) (va_cwS 1 hts gX8_scan_X8_turns rfl rfl rfl (by decide +kernel) ⟨Nat.le_of_ble_eq_true rfl, Nat.le_of_ble_eq_true rfl⟩) (lt_qS hK0 hPc hDc) rfl rfl hl.1 rfl (lv_room (Nat.le_of_ble_eq_true rfl)) dX8_scan_81 ⟨Nat.zero_le _, Nat.zero_le _⟩) hP hD hS hA [2] [0, 1, 3, 4, 5, 6, 7, 8] rfl rfl (by decide) (by decide) (fun x_81 e_x_81 H locs hP hD hS => ?_)
            have hP := hP.sub (ws' := lt_Md yI yC M i (va_up a0 1 x_81.2)) [0, 1, 8, 2, 3, 4, 5, 6, 7] rfl
            have hD := hD.sub (ws' := lt_Md yI yC M i (va_up a0 1 x_81.2)) [0, 1, 8, 2, 3, 4, 5, 6, 7] (by decide) rfl
            have hs := hs x_81 e_x_81
            refine lv_iadd hx hb dX8_scan_84 ?_
            refine lv_istore_n (lv' := [(3, .int (v3 + x_81.1)), (2, .int (v2 + x_71.1)), (4, .int v4), (0, .ref (M 0)), (1, .int p0)]) hx hb dX8_scan_85 rfl hl (by decide) rfl (fun ls hl => ?_)
            refine lv_iinc (v := (v4 + 1)) (lv' := [(4, .int (v4 + 1)), (3, .int (v3 + x_81.1)), (2, .int (v2 + x_71.1)), (0, .ref (M 0)), (1, .int p0)]) hx hb dX8_scan_86 hl (k := 2) rfl (rfl) (by decide) rfl (fun ls hl => ?_)
            refine lv_goto (tgt := 45) hx hb dX8_scan_89 (by decide) ?_
            exact ih ((v2 + x_71.1), (v3 + x_81.1), (v4 + 1), (va_up a0 1 x_81.2)) _ _ _ ⟨(v2 + x_71.1), (v3 + x_81.1), (v4 + 1), (va_up a0 1 x_81.2), rfl, lt_fuS hF (lt_nle c_48), (by subst e_x_81 e_x_71; exact (Eq.trans (Eq.symm (Eq.trans (if_neg c_48) (Eq.trans (if_neg c_63) rfl))) hT)), hs.1, hP, hD, hS, lv_sub hl [0, 1, 2, 3, 4] rfl⟩
    · have hs := hs.1 c_19
      refine lv_bipush (v := (-4)) hx hb dX8_scan_22 (by decide) ?_
      exact W.iret (v := (-4)) hx hb hret (fun t ht hW => ⟨⟨(-4), (i, a), rfl, (by subst e_r_4; exact (Eq.symm (Eq.trans (if_neg c_7) (Eq.trans (if_pos c_19) rfl)))), by rw [ht]; exact hP, hD⟩, hS.F ht⟩) hS.2.2 dX8_scan_24
  · have hs := hs.1 c_7
    refine lv_bipush (v := (-2)) hx hb dX8_scan_10 (by decide) ?_
    exact W.iret (v := (-2)) hx hb hret (fun t ht hW => ⟨⟨(-2), (i, a), rfl, (by subst e_r_4; exact (Eq.symm (Eq.trans (if_pos c_7) rfl))), by rw [ht]; exact hP, hD⟩, hS.F ht⟩) hS.2.2 dX8_scan_12

def X8_throwAway_L74 (i : Nat → Int32) (a : Nat → Nat → Int32) (p0 : Int32) : Nat → (Int32) → (Nat → Int32) → (Nat → Nat → Int32) → Int32 × ((Nat → Int32) × (Nat → Nat → Int32))
  | 0, _, _, _ => (0, (i, a))
  | fu + 1, v2, i0, a0 =>
    if 5 ≤ v2 then
      (((a0 0) 2), (i0, a0))
    else
      X8_throwAway_L74 i a p0 fu (v2 + 1) i0 (va_up a0 0 (upd (a0 0) ((132 + (5 * ((a0 0) 2))) + v2).toNatClampNeg 0))
def S_X8_throwAway_L74 (i : Nat → Int32) (a : Nat → Nat → Int32) (p0 : Int32) : Nat → (Int32) → (Nat → Int32) → (Nat → Nat → Int32) → Prop
  | 0, _, _, _ => True
  | fu + 1, v2, i0, a0 =>
    (5 ≤ v2 →
      True) ∧
    (¬ (5 ≤ v2) →
      (vp_in ((132 + (5 * ((a0 0) 2))) + v2) 532) ∧
      (S_X8_throwAway_L74 i a p0 fu (v2 + 1) i0 (va_up a0 0 (upd (a0 0) ((132 + (5 * ((a0 0) 2))) + v2).toNatClampNeg 0))) ∧
      True)
def X8_throwAway_L32 (i : Nat → Int32) (a : Nat → Nat → Int32) (p0 : Int32) : Nat → (Int32) → (Nat → Int32) → (Nat → Nat → Int32) → Int32 × ((Nat → Int32) × (Nat → Nat → Int32))
  | 0, _, _, _ => (0, (i, a))
  | fu + 1, v2, i0, a0 =>
    if (5 * ((a0 0) 2)) ≤ v2 then
      X8_throwAway_L74 i a p0 (((5 : Int32).toInt - (0 : Int32).toInt).toNat + 1) 0 i0 a0
    else
      X8_throwAway_L32 i a p0 fu (v2 + 1) i0 (va_up a0 0 (upd (a0 0) (132 + v2).toNatClampNeg ((a0 0) ((132 + v2) + 5).toNatClampNeg)))
def S_X8_throwAway_L32 (i : Nat → Int32) (a : Nat → Nat → Int32) (p0 : Int32) : Nat → (Int32) → (Nat → Int32) → (Nat → Nat → Int32) → Prop
  | 0, _, _, _ => True
  | fu + 1, v2, i0, a0 =>
    ((5 * ((a0 0) 2)) ≤ v2 →
      (S_X8_throwAway_L74 i a p0 (((5 : Int32).toInt - (0 : Int32).toInt).toNat + 1) 0 i0 a0) ∧
      True) ∧
    (¬ ((5 * ((a0 0) 2)) ≤ v2) →
      (vp_in ((132 + v2) + 5) 532) ∧
      (vp_in (132 + v2) 532) ∧
      (S_X8_throwAway_L32 i a p0 fu (v2 + 1) i0 (va_up a0 0 (upd (a0 0) (132 + v2).toNatClampNeg ((a0 0) ((132 + v2) + 5).toNatClampNeg)))) ∧
      True)
def X8_throwAway (i : Nat → Int32) (a : Nat → Nat → Int32) (p0 : Int32) : Int32 × ((Nat → Int32) × (Nat → Nat → Int32)) :=
  let r_2 := X8_isPicture i a p0
  if r_2 = 0 then
    ((-1), (i, a))
  else
    let x_15 := X8_records i a
    X8_throwAway_L32 i a p0 (((532 : Int32).toInt - (132 + (5 * p0) : Int32).toInt).toNat + 1) (5 * p0) x_15.1 (va_up x_15.2 0 (upd (x_15.2 0) 2 (((x_15.2 0) 2) - 1)))
def S_X8_throwAway (i : Nat → Int32) (a : Nat → Nat → Int32) (p0 : Int32) : Prop :=
  (S_X8_isPicture i a p0) ∧
  ∀ r_2, r_2 = X8_isPicture i a p0 →
  (r_2 = 0 →
    True) ∧
  (¬ (r_2 = 0) →
    (S_X8_records i a) ∧
    ∀ x_15, x_15 = X8_records i a →
    (S_X8_throwAway_L32 i a p0 (((532 : Int32).toInt - (132 + (5 * p0) : Int32).toInt).toNat + 1) (5 * p0) x_15.1 (va_up x_15.2 0 (upd (x_15.2 0) 2 (((x_15.2 0) 2) - 1)))) ∧
    True)
theorem iw_X8_throwAway_8 : ∀ w ∈ wsX80, w ∈ wsX8_throwAway := by decide +kernel
set_option maxHeartbeats 4000000 in
set_option maxRecDepth 100000 in
theorem c_X8_throwAway (l : Launch) (D : va_G) (yI yC yO : ClassId) (M : Nat → Nat) (i : Nat → Int32) (a : Nat → Nat → Int32) (p0 : Int32) (sz : Nat) (hs : S_X8_throwAway i a p0) : Met l yX8_throwAway wsX8_throwAway ({ frames := 2, cells := 0, slots := 0, locals := 60 }) (va_Pc [.ref (M 0), .int p0] (lt_M D yI yC yO (lt_Md yI yC M i a) sz)) (lt_Qi D (X8_throwAway i a p0) (fun u => lt_Md yI yC M u.1 u.2) (va_A (lt_Md yI yC M i a) sz)) 0 0 (va_A (lt_Md yI yC M i a) sz) := by
  refine Met.ofW (cc := cX8_throwAway) (maxL := 3) (ret := (some .int)) (by decide) rfl ?_
  intro p e s m args below meth c s₁ B0 hml hv
  obtain ⟨rfl, hsz, hP, hK0, hD0⟩ := hv
  have hx := B0.exec
  have hb := B0.bytes
  have hret := B0.returns
  have hts := atoms_spec (ws := wsX8_throwAway) B0.pre
  have hown : s.vm.findClass RX8 = some m.cls := findClass_of_methodNamed B0.named
  have hlocks := B0.notSynchronized
  have hK := hK0.1
  have hN := hK0.2
  subst hsz
  have hD := hD0.self (sz := s.heap.size)
  generalize hAe : va_A (lt_Md yI yC M i a) s.heap.size = A at hD ⊢
  have hA : ∀ q : Nat, s.heap.size ≤ q → A q := fun q h => by rw [← hAe]; exact Or.inr h
  have hS : va_S A s.heap s.heap [] := va_S.rf
  have hP : va_P D vwCl (lt_Md yI yC M i a) s.heap := hP
  have hD : va_D A (lt_Md yI yC M i a) := hD
  have hl := lv_entry ([.ref (M 0), .int p0]) (n := 3) (Nat.le_of_ble_eq_true rfl)
  rw [lg_entry_eq]
  generalize (lg_sl ([.ref (M 0), .int p0]) ++ List.replicate (3 - (lg_sl ([.ref (M 0), .int p0])).length) Slot.unset).toArray = ls at hl ⊢
  have hl : lv_has ls 3 [(0, .ref (M 0)), (1, .int p0)] := hl
  refine lv_aload_n hx hb dX8_throwAway_0 rfl (lv_at hl 0 rfl) ?_
  refine lv_iload_n hx hb dX8_throwAway_1 rfl (lv_at hl 1 rfl) ?_
  have ho_2 := hs.1; have hs := hs.2
  have hPc := hP.sub (ws' := lt_Md yI yC M i a) [0, 1, 2, 3, 4, 5, 6, 7, 8] rfl
  refine lt_cR (va_runV (As := [.int p0]) (rest := []) ⟨hx, hb, hml, hown, hts⟩ (c_X8_isPicture l D yI yC yO M i a p0 ho_2) (cwV 1 hts gX8_throwAway_X8_isPicture rfl rfl rfl (by decide +kernel) ⟨Nat.le_of_ble_eq_true rfl, Nat.le_of_ble_eq_true rfl⟩) (lt_pV hK0 hPc (va_recv hK hPc (ci := 8) (q0 := 0) rfl rfl)) rfl rfl hl.1 rfl (lv_room (Nat.le_of_ble_eq_true rfl)) dX8_throwAway_2 ⟨Nat.zero_le _, Nat.zero_le _⟩) (fun r_2 e_r_2 => ?_)
  have hs := hs r_2 e_r_2
  refine lv_if_ne (tgt := 10) hx hb dX8_throwAway_5 (by decide) (fun c_5 => ?_) (fun c_5 => ?_)
  · have hs := hs.2 c_5
    refine lv_aload_n hx hb dX8_throwAway_10 rfl (lv_at hl 0 rfl) ?_
    refine lv_aload_n hx hb dX8_throwAway_11 rfl (lv_at hl 0 rfl) ?_
    refine va_get (D := D) (ci := 8) (v := .ref (M 1)) (C := RX8) (T := TX8) (N := 13) hx hb hts iw_X8_throwAway_8 hown hK hP 0 rfl rfl 0 (by decide) (hts (.fieldLink RX8 7 "LeafTurnerModel" "now" "[I") (by decide +kernel)) (fun _ h9 => h9) rfl dX8_throwAway_12 ?_
    have ho_15 := hs.1; have hs := hs.2
    have hPc := hP.sub (ws' := lt_Md yI yC M i a) [0, 1, 2, 3, 4, 5, 6, 7, 8] rfl
    have hDc := hD.sub (ws' := lt_Md yI yC M i a) [0, 1, 2, 3, 4, 5, 6, 7, 8] (by decide) rfl
    refine lt_cWv (wc := lt_Md yI yC M i a) (wr := []) (va_runV (As := [.ref (M 1)]) (rest := []) ⟨hx, hb, hml, hown, hts⟩ (c_X8_records l D yI yC yO M i a _ ho_15) (cwV 1 hts gX8_throwAway_X8_records rfl rfl rfl (by decide +kernel) ⟨Nat.le_of_ble_eq_true rfl, Nat.le_of_ble_eq_true rfl⟩) (lt_qV hK0 hPc hDc (va_recv hK hPc (ci := 8) (q0 := 0) rfl rfl)) rfl rfl hl.1 rfl (lv_room (Nat.le_of_ble_eq_true rfl)) dX8_throwAway_15 ⟨Nat.zero_le _, Nat.zero_le _⟩) hP hD hS hA [0, 1, 2, 3, 4, 5, 6, 7, 8] [] rfl rfl (by decide) (by decide) (fun x_15 e_x_15 H locs hP hD hS => ?_)
    have hP := hP.sub (ws' := lt_Md yI yC M x_15.1 x_15.2) [0, 1, 2, 3, 4, 5, 6, 7, 8] rfl
    have hD := hD.sub (ws' := lt_Md yI yC M x_15.1 x_15.2) [0, 1, 2, 3, 4, 5, 6, 7, 8] (by decide) rfl
    have hs := hs x_15 e_x_15
    refine lv_aload_n hx hb dX8_throwAway_18 rfl (lv_at hl 0 rfl) ?_
    refine va_get (D := D) (ci := 8) (v := .ref (M 1)) (C := RX8) (T := TX8) (N := 13) hx hb hts iw_X8_throwAway_8 hown hK hP 0 rfl rfl 0 (by decide) (hts (.fieldLink RX8 7 "LeafTurnerModel" "now" "[I") (by decide +kernel)) (fun _ h9 => h9) rfl dX8_throwAway_19 ?_
    refine lv_iconst (v := 2) hx hb dX8_throwAway_22 (by decide) ?_
    refine lv_dup2_11 hx hb dX8_throwAway_23 rfl rfl ?_
    refine va_iald hx hb hK hP 1 0 rfl rfl (i := 2) (vp_in_iff.mpr (by decide)) dX8_throwAway_24 ?_
    refine lt_top (y := ((x_15.2 0) 2)) rfl ?_
    refine lv_iconst (v := 1) hx hb dX8_throwAway_25 (by decide) ?_
    refine lv_isub hx hb dX8_throwAway_26 ?_
    refine va_iast hx hb hK hP hD hS 1 0 rfl rfl (i := 2) (x := (((x_15.2 0) 2) - 1)) (vp_in_iff.mpr (by decide)) dX8_throwAway_27 (fun H locs hP hD hS => ?_)
    have hP : va_P D vwCl (lt_Md yI yC M x_15.1 (va_up x_15.2 0 (upd (x_15.2 0) 2 (((x_15.2 0) 2) - 1)))) H := hP
    have hD : va_D A (lt_Md yI yC M x_15.1 (va_up x_15.2 0 (upd (x_15.2 0) 2 (((x_15.2 0) 2) - 1)))) := hD
    refine lv_iconst (v := 5) hx hb dX8_throwAway_28 (by decide) ?_
    refine lv_iload_n hx hb dX8_throwAway_29 rfl (lv_at hl 1 rfl) ?_
    refine lv_imul hx hb dX8_throwAway_30 ?_
    refine lv_istore_n (lv' := [(2, .int (5 * p0)), (0, .ref (M 0)), (1, .int p0)]) hx hb dX8_throwAway_31 rfl hl (by decide) rfl (fun ls hl => ?_)
    refine lt_loop (σ := (Int32) × (Nat → Int32) × (Nat → Nat → Int32)) (fun fu (x : (Int32) × (Nat → Int32) × (Nat → Nat → Int32)) H locs ls => ∃ (v2 : Int32) (i0 : Nat → Int32) (a0 : Nat → Nat → Int32), x = (v2, i0, a0) ∧ lt_fu fu (532) (132 + v2) ∧ X8_throwAway_L32 i a p0 fu v2 i0 a0 = X8_throwAway i a p0 ∧ S_X8_throwAway_L32 i a p0 fu v2 i0 a0 ∧ va_P D vwCl (lt_Md yI yC M i0 a0) H ∧ va_D A (lt_Md yI yC M i0 a0) ∧ va_S A s.heap H locs ∧ lv_has ls 3 [(2, .int v2), (0, .ref (M 0)), (1, .int p0)]) ?_ ?_ (((532 : Int32).toInt - (132 + (5 * p0) : Int32).toInt).toNat + 1) ((5 * p0), x_15.1, (va_up x_15.2 0 (upd (x_15.2 0) 2 (((x_15.2 0) 2) - 1)))) _ _ _ ⟨(5 * p0), x_15.1, (va_up x_15.2 0 (upd (x_15.2 0) 2 (((x_15.2 0) 2) - 1))), rfl, lt_fuI _ _, (by subst e_x_15 e_r_2; exact (Eq.symm (Eq.trans (if_neg c_5) rfl))), hs.1, hP, hD, hS, (lv_sub hl [0, 1, 2] rfl)⟩
    · rintro x H locs ls ⟨_, _, _, -, hF, -⟩
      exact lt_fu0 hF
    · rintro fu ih x H locs ls ⟨v2, i0, a0, rfl, hF, hT, hs, hP, hD, hS, hl⟩
      refine lv_iload_n hx hb dX8_throwAway_32 rfl (lv_at hl 0 rfl) ?_
      refine lv_iconst (v := 5) hx hb dX8_throwAway_33 (by decide) ?_
      refine lv_aload_n hx hb dX8_throwAway_34 rfl (lv_at hl 1 rfl) ?_
      refine va_get (D := D) (ci := 8) (v := .ref (M 1)) (C := RX8) (T := TX8) (N := 13) hx hb hts iw_X8_throwAway_8 hown hK hP 0 rfl rfl 0 (by decide) (hts (.fieldLink RX8 7 "LeafTurnerModel" "now" "[I") (by decide +kernel)) (fun _ h9 => h9) rfl dX8_throwAway_35 ?_
      refine lv_iconst (v := 2) hx hb dX8_throwAway_38 (by decide) ?_
      refine va_iald hx hb hK hP 1 0 rfl rfl (i := 2) (vp_in_iff.mpr (by decide)) dX8_throwAway_39 ?_
      refine lt_top (y := ((a0 0) 2)) rfl ?_
      refine lv_imul hx hb dX8_throwAway_40 ?_
      refine lv_icmp_ge (tgt := 72) hx hb dX8_throwAway_41 (by decide) (fun c_41 => ?_) (fun c_41 => ?_)
      · have hs := hs.1 c_41
        refine lv_iconst (v := 0) hx hb dX8_throwAway_72 (by decide) ?_
        refine lv_istore_n (lv' := [(2, .int 0), (0, .ref (M 0)), (1, .int p0)]) hx hb dX8_throwAway_73 rfl hl (by decide) rfl (fun ls hl => ?_)
        refine lt_loop (σ := (Int32) × (Nat → Int32) × (Nat → Nat → Int32)) (fun fu (x : (Int32) × (Nat → Int32) × (Nat → Nat → Int32)) H locs ls => ∃ (v2 : Int32) (i0 : Nat → Int32) (a0 : Nat → Nat → Int32), x = (v2, i0, a0) ∧ lt_fu fu (5) (v2) ∧ X8_throwAway_L74 i a p0 fu v2 i0 a0 = X8_throwAway i a p0 ∧ S_X8_throwAway_L74 i a p0 fu v2 i0 a0 ∧ va_P D vwCl (lt_Md yI yC M i0 a0) H ∧ va_D A (lt_Md yI yC M i0 a0) ∧ va_S A s.heap H locs ∧ lv_has ls 3 [(2, .int v2), (0, .ref (M 0)), (1, .int p0)]) ?_ ?_ (((5 : Int32).toInt - (0 : Int32).toInt).toNat + 1) (0, i0, a0) _ _ _ ⟨0, i0, a0, rfl, lt_fuI _ _, (Eq.trans (Eq.symm (Eq.trans (if_pos c_41) rfl)) hT), hs.1, hP, hD, hS, (lv_sub hl [0, 1, 2] rfl)⟩
        · rintro x H locs ls ⟨_, _, _, -, hF, -⟩
          exact lt_fu0 hF
        · rintro fu ih x H locs ls ⟨v2, i0, a0, rfl, hF, hT, hs, hP, hD, hS, hl⟩
          refine lv_iload_n hx hb dX8_throwAway_74 rfl (lv_at hl 0 rfl) ?_
          refine lv_iconst (v := 5) hx hb dX8_throwAway_75 (by decide) ?_
          refine lv_icmp_ge (tgt := 105) hx hb dX8_throwAway_76 (by decide) (fun c_76 => ?_) (fun c_76 => ?_)
          · have hs := hs.1 c_76
            refine lv_aload_n hx hb dX8_throwAway_105 rfl (lv_at hl 1 rfl) ?_
            refine va_get (D := D) (ci := 8) (v := .ref (M 1)) (C := RX8) (T := TX8) (N := 13) hx hb hts iw_X8_throwAway_8 hown hK hP 0 rfl rfl 0 (by decide) (hts (.fieldLink RX8 7 "LeafTurnerModel" "now" "[I") (by decide +kernel)) (fun _ h9 => h9) rfl dX8_throwAway_106 ?_
            refine lv_iconst (v := 2) hx hb dX8_throwAway_109 (by decide) ?_
            refine va_iald hx hb hK hP 1 0 rfl rfl (i := 2) (vp_in_iff.mpr (by decide)) dX8_throwAway_110 ?_
            refine lt_top (y := ((a0 0) 2)) rfl ?_
            exact W.iret (v := ((a0 0) 2)) hx hb hret (fun t ht hW => ⟨⟨((a0 0) 2), (i0, a0), rfl, (Eq.trans (Eq.symm (Eq.trans (if_pos c_76) rfl)) hT), by rw [ht]; exact hP, hD⟩, hS.F ht⟩) hS.2.2 dX8_throwAway_111
          · have hs := hs.2 c_76
            refine lv_aload_n hx hb dX8_throwAway_79 rfl (lv_at hl 1 rfl) ?_
            refine va_get (D := D) (ci := 8) (v := .ref (M 1)) (C := RX8) (T := TX8) (N := 13) hx hb hts iw_X8_throwAway_8 hown hK hP 0 rfl rfl 0 (by decide) (hts (.fieldLink RX8 7 "LeafTurnerModel" "now" "[I") (by decide +kernel)) (fun _ h9 => h9) rfl dX8_throwAway_80 ?_
            refine lv_sipush (v := 132) hx hb dX8_throwAway_83 (by decide) ?_
            refine lv_iconst (v := 5) hx hb dX8_throwAway_86 (by decide) ?_
            refine lv_aload_n hx hb dX8_throwAway_87 rfl (lv_at hl 1 rfl) ?_
            refine va_get (D := D) (ci := 8) (v := .ref (M 1)) (C := RX8) (T := TX8) (N := 13) hx hb hts iw_X8_throwAway_8 hown hK hP 0 rfl rfl 0 (by decide) (hts (.fieldLink RX8 7 "LeafTurnerModel" "now" "[I") (by decide +kernel)) (fun _ h9 => h9) rfl dX8_throwAway_88 ?_
            refine lv_iconst (v := 2) hx hb dX8_throwAway_91 (by decide) ?_
            refine va_iald hx hb hK hP 1 0 rfl rfl (i := 2) (vp_in_iff.mpr (by decide)) dX8_throwAway_92 ?_
            refine lt_top (y := ((a0 0) 2)) rfl ?_
            refine lv_imul hx hb dX8_throwAway_93 ?_
            refine lv_iadd hx hb dX8_throwAway_94 ?_
            refine lv_iload_n hx hb dX8_throwAway_95 rfl (lv_at hl 0 rfl) ?_
            refine lv_iadd hx hb dX8_throwAway_96 ?_
            refine lv_iconst (v := 0) hx hb dX8_throwAway_97 (by decide) ?_
            have ho_98 := hs.1; have hs := hs.2
            refine va_iast hx hb hK hP hD hS 1 0 rfl rfl (i := ((132 + (5 * ((a0 0) 2))) + v2)) (x := 0) (ho_98) dX8_throwAway_98 (fun H locs hP hD hS => ?_)
            have hP : va_P D vwCl (lt_Md yI yC M i0 (va_up a0 0 (upd (a0 0) ((132 + (5 * ((a0 0) 2))) + v2).toNatClampNeg 0))) H := hP
            have hD : va_D A (lt_Md yI yC M i0 (va_up a0 0 (upd (a0 0) ((132 + (5 * ((a0 0) 2))) + v2).toNatClampNeg 0))) := hD
            refine lv_iinc (v := (v2 + 1)) (lv' := [(2, .int (v2 + 1)), (0, .ref (M 0)), (1, .int p0)]) hx hb dX8_throwAway_99 hl (k := 0) rfl (rfl) (by decide) rfl (fun ls hl => ?_)
            refine lv_goto (tgt := 74) hx hb dX8_throwAway_102 (by decide) ?_
            exact ih ((v2 + 1), i0, (va_up a0 0 (upd (a0 0) ((132 + (5 * ((a0 0) 2))) + v2).toNatClampNeg 0))) _ _ _ ⟨(v2 + 1), i0, (va_up a0 0 (upd (a0 0) ((132 + (5 * ((a0 0) 2))) + v2).toNatClampNeg 0)), rfl, lt_fuS hF (lt_nle c_76), (Eq.trans (Eq.symm (Eq.trans (if_neg c_76) rfl)) hT), hs.1, hP, hD, hS, lv_sub hl [0, 1, 2] rfl⟩
      · have hs := hs.2 c_41
        refine lv_aload_n hx hb dX8_throwAway_44 rfl (lv_at hl 1 rfl) ?_
        refine va_get (D := D) (ci := 8) (v := .ref (M 1)) (C := RX8) (T := TX8) (N := 13) hx hb hts iw_X8_throwAway_8 hown hK hP 0 rfl rfl 0 (by decide) (hts (.fieldLink RX8 7 "LeafTurnerModel" "now" "[I") (by decide +kernel)) (fun _ h9 => h9) rfl dX8_throwAway_45 ?_
        refine lv_sipush (v := 132) hx hb dX8_throwAway_48 (by decide) ?_
        refine lv_iload_n hx hb dX8_throwAway_51 rfl (lv_at hl 0 rfl) ?_
        refine lv_iadd hx hb dX8_throwAway_52 ?_
        refine lv_aload_n hx hb dX8_throwAway_53 rfl (lv_at hl 1 rfl) ?_
        refine va_get (D := D) (ci := 8) (v := .ref (M 1)) (C := RX8) (T := TX8) (N := 13) hx hb hts iw_X8_throwAway_8 hown hK hP 0 rfl rfl 0 (by decide) (hts (.fieldLink RX8 7 "LeafTurnerModel" "now" "[I") (by decide +kernel)) (fun _ h9 => h9) rfl dX8_throwAway_54 ?_
        refine lv_sipush (v := 132) hx hb dX8_throwAway_57 (by decide) ?_
        refine lv_iload_n hx hb dX8_throwAway_60 rfl (lv_at hl 0 rfl) ?_
        refine lv_iadd hx hb dX8_throwAway_61 ?_
        refine lv_iconst (v := 5) hx hb dX8_throwAway_62 (by decide) ?_
        refine lv_iadd hx hb dX8_throwAway_63 ?_
        have ho_64 := hs.1; have hs := hs.2
        refine va_iald hx hb hK hP 1 0 rfl rfl (i := ((132 + v2) + 5)) (ho_64) dX8_throwAway_64 ?_
        have ho_65 := hs.1; have hs := hs.2
        refine va_iast hx hb hK hP hD hS 1 0 rfl rfl (i := (132 + v2)) (x := ((a0 0) ((132 + v2) + 5).toNatClampNeg)) (ho_65) dX8_throwAway_65 (fun H locs hP hD hS => ?_)
        have hP : va_P D vwCl (lt_Md yI yC M i0 (va_up a0 0 (upd (a0 0) (132 + v2).toNatClampNeg ((a0 0) ((132 + v2) + 5).toNatClampNeg)))) H := hP
        have hD : va_D A (lt_Md yI yC M i0 (va_up a0 0 (upd (a0 0) (132 + v2).toNatClampNeg ((a0 0) ((132 + v2) + 5).toNatClampNeg)))) := hD
        refine lv_iinc (v := (v2 + 1)) (lv' := [(2, .int (v2 + 1)), (0, .ref (M 0)), (1, .int p0)]) hx hb dX8_throwAway_66 hl (k := 0) rfl (rfl) (by decide) rfl (fun ls hl => ?_)
        refine lv_goto (tgt := 32) hx hb dX8_throwAway_69 (by decide) ?_
        exact ih ((v2 + 1), i0, (va_up a0 0 (upd (a0 0) (132 + v2).toNatClampNeg ((a0 0) ((132 + v2) + 5).toNatClampNeg)))) _ _ _ ⟨(v2 + 1), i0, (va_up a0 0 (upd (a0 0) (132 + v2).toNatClampNeg ((a0 0) ((132 + v2) + 5).toNatClampNeg))), rfl, (by rw [← Int32.add_assoc]; exact lt_fuS hF (lt_vlt (by decide) ho_65)), (Eq.trans (Eq.symm (Eq.trans (if_neg c_41) rfl)) hT), hs.1, hP, hD, hS, lv_sub hl [0, 1, 2] rfl⟩
  · have hs := hs.1 c_5
    refine lv_iconst (v := (-1)) hx hb dX8_throwAway_8 (by decide) ?_
    exact W.iret (v := (-1)) hx hb hret (fun t ht hW => ⟨⟨(-1), (i, a), rfl, (by subst e_r_2; exact (Eq.symm (Eq.trans (if_pos c_5) rfl))), by rw [ht]; exact hP, hD⟩, hS.F ht⟩) hS.2.2 dX8_throwAway_9
