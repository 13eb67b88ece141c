def X5_has (z : Int32) (pg : Nat → Int32) (nu : Nat → Int32) (gu : Nat → Int32) (pr : Nat → Int32) (p0 : Int32) : Int32 :=
  if p0 < 0 then
    0
  else
    if z ≤ p0 then
      0
    else
      1
theorem iw_X5_has_5 : ∀ w ∈ wsX50, w ∈ wsX5_has := by decide +kernel
set_option maxHeartbeats 4000000 in
set_option maxRecDepth 100000 in
theorem c_X5_has (l : Launch) (D : va_G) (yI yC yO : ClassId) (B : Nat → Nat) (z : Int32) (pg : Nat → Int32) (nu : Nat → Int32) (gu : Nat → Int32) (pr : Nat → Int32) (p0 : Int32) : Met l yX5_has wsX5_has ({ frames := 0, cells := 0, slots := 0, locals := 0 }) (va_Pc [.ref (B 8), .int p0] (lt_R D yI yC yO (lt_Ps yI B z pg nu gu pr))) (lt_Si (X5_has z pg nu gu pr p0)) 0 0 (fun _ => False) := by
  refine Met.ofW (cc := cX5_has) (maxL := 2) (ret := (some .boolean)) (by decide) rfl ?_
  intro p e s m args below meth c s₁ B0 hml hv
  obtain ⟨rfl, hP, hK0⟩ := hv
  have hx := B0.exec
  have hb := B0.bytes
  have hret := B0.returns
  have hts := atoms_spec (ws := wsX5_has) B0.pre
  have hown : s.vm.findClass RX5 = some m.cls := findClass_of_methodNamed B0.named
  have hlocks := B0.notSynchronized
  have hK := hK0.1
  have hN := hK0.2
  have hP : va_P D vwCl (lt_Ps yI B z pg nu gu pr) s.heap := hP
  have hl := lv_entry ([.ref (B 8), .int p0]) (n := 2) (Nat.le_of_ble_eq_true rfl)
  rw [lg_entry_eq]
  generalize (lg_sl ([.ref (B 8), .int p0]) ++ List.replicate (2 - (lg_sl ([.ref (B 8), .int p0])).length) Slot.unset).toArray = ls at hl ⊢
  have hl : lv_has ls 2 [(0, .ref (B 8)), (1, .int p0)] := hl
  refine lv_iload_n hx hb dX5_has_0 rfl (lv_at hl 1 rfl) ?_
  refine lv_if_lt (tgt := 16) hx hb dX5_has_1 (by decide) (fun c_1 => ?_) (fun c_1 => ?_)
  · refine lv_iconst (v := 0) hx hb dX5_has_16 (by decide) ?_
    exact W.zret (v := 0) hx hb hret lt_z0 (fun t ht hW => ⟨0, rfl, (Eq.symm (Eq.trans (if_pos c_1) rfl)), ht⟩) (fun _ h => absurd h List.not_mem_nil) dX5_has_17
  · refine lv_iload_n hx hb dX5_has_4 rfl (lv_at hl 1 rfl) ?_
    refine lv_aload_n hx hb dX5_has_5 rfl (lv_at hl 0 rfl) ?_
    refine va_get (D := D) (ci := 5) (v := .int z) (C := RX5) (T := TX5) (N := 5) hx hb hts iw_X5_has_5 hown hK hP 0 rfl rfl 4 (by decide) (hts (.fieldLink RX5 29 "LeafTurner$Pictures" "size" "I") (by decide +kernel)) (fun _ h9 => h9) rfl dX5_has_6 ?_
    refine lv_icmp_ge (tgt := 16) hx hb dX5_has_9 (by decide) (fun c_9 => ?_) (fun c_9 => ?_)
    · refine lv_iconst (v := 0) hx hb dX5_has_16 (by decide) ?_
      exact W.zret (v := 0) hx hb hret lt_z0 (fun t ht hW => ⟨0, rfl, (Eq.symm (Eq.trans (if_neg c_1) (Eq.trans (if_pos c_9) rfl))), ht⟩) (fun _ h => absurd h List.not_mem_nil) dX5_has_17
    · refine lv_iconst (v := 1) hx hb dX5_has_12 (by decide) ?_
      refine lv_goto (tgt := 17) hx hb dX5_has_13 (by decide) ?_
      exact W.zret (v := 1) hx hb hret lt_z1 (fun t ht hW => ⟨1, rfl, (Eq.symm (Eq.trans (if_neg c_1) (Eq.trans (if_neg c_9) rfl))), ht⟩) (fun _ h => absurd h List.not_mem_nil) dX5_has_17

def X5_isGood (z : Int32) (pg : Nat → Int32) (nu : Nat → Int32) (gu : Nat → Int32) (pr : Nat → Int32) (p0 : Int32) : Int32 :=
  let r_5 := X3_at 80 gu p0
  if r_5 = 1 then
    1
  else
    0
theorem iw_X5_isGood_5 : ∀ w ∈ wsX50, w ∈ wsX5_isGood := by decide +kernel
set_option maxHeartbeats 4000000 in
set_option maxRecDepth 100000 in
theorem c_X5_isGood (l : Launch) (D : va_G) (yI yC yO : ClassId) (B : Nat → Nat) (z : Int32) (pg : Nat → Int32) (nu : Nat → Int32) (gu : Nat → Int32) (pr : Nat → Int32) (p0 : Int32) : Met l yX5_isGood wsX5_isGood ({ frames := 2, cells := 0, slots := 0, locals := 60 }) (va_Pc [.ref (B 8), .int p0] (lt_R D yI yC yO (lt_Ps yI B z pg nu gu pr))) (lt_Si (X5_isGood z pg nu gu pr p0)) 0 0 (fun _ => False) := by
  refine Met.ofW (cc := cX5_isGood) (maxL := 2) (ret := (some .boolean)) (by decide) rfl ?_
  intro p e s m args below meth c s₁ B0 hml hv
  obtain ⟨rfl, hP, hK0⟩ := hv
  have hx := B0.exec
  have hb := B0.bytes
  have hret := B0.returns
  have hts := atoms_spec (ws := wsX5_isGood) B0.pre
  have hown : s.vm.findClass RX5 = some m.cls := findClass_of_methodNamed B0.named
  have hlocks := B0.notSynchronized
  have hK := hK0.1
  have hN := hK0.2
  have hP : va_P D vwCl (lt_Ps yI B z pg nu gu pr) s.heap := hP
  have hl := lv_entry ([.ref (B 8), .int p0]) (n := 2) (Nat.le_of_ble_eq_true rfl)
  rw [lg_entry_eq]
  generalize (lg_sl ([.ref (B 8), .int p0]) ++ List.replicate (2 - (lg_sl ([.ref (B 8), .int p0])).length) Slot.unset).toArray = ls at hl ⊢
  have hl : lv_has ls 2 [(0, .ref (B 8)), (1, .int p0)] := hl
  refine lv_aload_n hx hb dX5_isGood_0 rfl (lv_at hl 0 rfl) ?_
  refine va_get (D := D) (ci := 5) (v := .ref (B 13)) (C := RX5) (T := TX5) (N := 5) hx hb hts iw_X5_isGood_5 hown hK hP 0 rfl rfl 2 (by decide) (hts (.fieldLink RX5 23 "LeafTurner$Pictures" "gutters" "LLeafTurner$Numbers;") (by decide +kernel)) (fun _ h9 => h9) rfl dX5_isGood_1 ?_
  refine lv_iload_n hx hb dX5_isGood_4 rfl (lv_at hl 1 rfl) ?_
  have hPc := hP.sub (ws' := lt_N2 yI (B 13) (B 14) 80 gu) [5, 6] rfl
  refine lt_cR (va_runV (As := [.int p0]) (rest := []) ⟨hx, hb, hml, hown, hts⟩ (c_X3_at l D yI yC yO (B 13) (B 14) 80 gu p0 (by decide)) (cwV 1 hts gX5_isGood_X3_at rfl rfl rfl (by decide +kernel) ⟨Nat.le_of_ble_eq_true rfl, Nat.le_of_ble_eq_true rfl⟩) (lt_pV hK0 hPc (va_recv hK hPc (ci := 3) (q0 := 0) rfl rfl)) rfl rfl hl.1 rfl (lv_room (Nat.le_of_ble_eq_true rfl)) dX5_isGood_5 ⟨Nat.zero_le _, Nat.zero_le _⟩) (fun r_5 e_r_5 => ?_)
  refine lv_iconst (v := 1) hx hb dX5_isGood_8 (by decide) ?_
  refine lv_icmp_ne (tgt := 16) hx hb dX5_isGood_9 (by decide) (fun c_9 => ?_) (fun c_9 => ?_)
  · refine lv_iconst (v := 0) hx hb dX5_isGood_16 (by decide) ?_
    exact W.zret (v := 0) hx hb hret lt_z0 (fun t ht hW => ⟨0, rfl, (by subst e_r_5; exact (Eq.symm (Eq.trans (if_neg c_9) rfl))), ht⟩) (fun _ h => absurd h List.not_mem_nil) dX5_isGood_17
  · refine lv_iconst (v := 1) hx hb dX5_isGood_12 (by decide) ?_
    refine lv_goto (tgt := 17) hx hb dX5_isGood_13 (by decide) ?_
    exact W.zret (v := 1) hx hb hret lt_z1 (fun t ht hW => ⟨1, rfl, (by subst e_r_5; exact (Eq.symm (Eq.trans (if_pos c_9) rfl))), ht⟩) (fun _ h => absurd h List.not_mem_nil) dX5_isGood_17

def X5_add (z : Int32) (pg : Nat → Int32) (nu : Nat → Int32) (gu : Nat → Int32) (pr : Nat → Int32) (p0 : Int32) (p1 : Int32) (p2 : Int32) (p3 : Int32) : (Int32) × (Nat → Int32) × (Nat → Int32) × (Nat → Int32) × (Nat → Int32) :=
  if z < 80 then
    let x_19 := X3_put 80 pg z p0
    let x_31 := X3_put 80 nu z p1
    let r_43 := X7_asNumber p2
    let x_46 := X3_put 80 gu z r_43
    let x_59 := X3_put 80 pr z p3
    ((z + 1), x_19, x_31, x_46, x_59)
  else
    (z, pg, nu, gu, pr)
theorem iw_X5_add_5 : ∀ w ∈ wsX50, w ∈ wsX5_add := by decide +kernel
set_option maxHeartbeats 4000000 in
set_option maxRecDepth 100000 in
theorem c_X5_add (l : Launch) (D : va_G) (yI yC yO : ClassId) (B : Nat → Nat) (z : Int32) (pg : Nat → Int32) (nu : Nat → Int32) (gu : Nat → Int32) (pr : Nat → Int32) (p0 : Int32) (p1 : Int32) (p2 : Int32) (p3 : Int32) (sz : Nat) : Met l yX5_add wsX5_add ({ frames := 2, cells := 0, slots := 0, locals := 60 }) (va_Pc [.ref (B 8), .int p0, .int p1, .int p2, .int p3] (lt_M D yI yC yO (lt_Ps yI B z pg nu gu pr) sz)) (lt_Qv D (X5_add z pg nu gu pr p0 p1 p2 p3) (fun u => lt_Ps yI B u.1 u.2.1 u.2.2.1 u.2.2.2.1 u.2.2.2.2) (va_A (lt_Ps yI B z pg nu gu pr) sz)) 0 0 (va_A (lt_Ps yI B z pg nu gu pr) sz) := by
  refine Met.ofW (cc := cX5_add) (maxL := 5) (ret := none) (by decide) rfl ?_
  intro p e s m args below meth c s₁ B0 hml hv
  obtain ⟨rfl, hsz, hP, hK0, hD0⟩ := hv
  have hx := B0.exec
  have hb := B0.bytes
  have hret := B0.returns
  have hts := atoms_spec (ws := wsX5_add) B0.pre
  have hown : s.vm.findClass RX5 = some m.cls := findClass_of_methodNamed B0.named
  have hlocks := B0.notSynchronized
  have hK := hK0.1
  have hN := hK0.2
  subst hsz
  have hD := hD0.self (sz := s.heap.size)
  generalize hAe : va_A (lt_Ps yI B z pg nu gu pr) s.heap.size = A at hD ⊢
  have hA : ∀ q : Nat, s.heap.size ≤ q → A q := fun q h => by rw [← hAe]; exact Or.inr h
  have hS : va_S A s.heap s.heap [] := va_S.rf
  have hP : va_P D vwCl (lt_Ps yI B z pg nu gu pr) s.heap := hP
  have hD : va_D A (lt_Ps yI B z pg nu gu pr) := hD
  have hl := lv_entry ([.ref (B 8), .int p0, .int p1, .int p2, .int p3]) (n := 5) (Nat.le_of_ble_eq_true rfl)
  rw [lg_entry_eq]
  generalize (lg_sl ([.ref (B 8), .int p0, .int p1, .int p2, .int p3]) ++ List.replicate (5 - (lg_sl ([.ref (B 8), .int p0, .int p1, .int p2, .int p3])).length) Slot.unset).toArray = ls at hl ⊢
  have hl : lv_has ls 5 [(0, .ref (B 8)), (1, .int p0), (2, .int p1), (3, .int p2), (4, .int p3)] := hl
  refine lv_aload_n hx hb dX5_add_0 rfl (lv_at hl 0 rfl) ?_
  refine va_get (D := D) (ci := 5) (v := .int z) (C := RX5) (T := TX5) (N := 5) hx hb hts iw_X5_add_5 hown hK hP 0 rfl rfl 4 (by decide) (hts (.fieldLink RX5 29 "LeafTurner$Pictures" "size" "I") (by decide +kernel)) (fun _ h9 => h9) rfl dX5_add_1 ?_
  refine lv_bipush (v := 80) hx hb dX5_add_4 (by decide) ?_
  refine lv_icmp_lt (tgt := 10) hx hb dX5_add_6 (by decide) (fun c_6 => ?_) (fun c_6 => ?_)
  · refine lv_aload_n hx hb dX5_add_10 rfl (lv_at hl 0 rfl) ?_
    refine va_get (D := D) (ci := 5) (v := .ref (B 9)) (C := RX5) (T := TX5) (N := 5) hx hb hts iw_X5_add_5 hown hK hP 0 rfl rfl 0 (by decide) (hts (.fieldLink RX5 14 "LeafTurner$Pictures" "pages" "LLeafTurner$Numbers;") (by decide +kernel)) (fun _ h9 => h9) rfl dX5_add_11 ?_
    refine lv_aload_n hx hb dX5_add_14 rfl (lv_at hl 0 rfl) ?_
    refine va_get (D := D) (ci := 5) (v := .int z) (C := RX5) (T := TX5) (N := 5) hx hb hts iw_X5_add_5 hown hK hP 0 rfl rfl 4 (by decide) (hts (.fieldLink RX5 29 "LeafTurner$Pictures" "size" "I") (by decide +kernel)) (fun _ h9 => h9) rfl dX5_add_15 ?_
    refine lv_iload_n hx hb dX5_add_18 rfl (lv_at hl 1 rfl) ?_
    have hPc := hP.sub (ws' := lt_N2 yI (B 9) (B 10) 80 pg) [1, 2] rfl
    have hDc := hD.sub (ws' := lt_N2 yI (B 9) (B 10) 80 pg) [1, 2] (by decide) rfl
    refine lt_cWv (wc := lt_N2 yI (B 9) (B 10) 80 pg) (wr := [(B 8, .inr (5, [.ref (B 9), .ref (B 11), .ref (B 13), .ref (B 15), .int z])), (B 11, .inr (3, [.ref (B 12)])), (B 12, .inl (yI, 80, .inl nu)), (B 13, .inr (3, [.ref (B 14)])), (B 14, .inl (yI, 80, .inl gu)), (B 15, .inr (3, [.ref (B 16)])), (B 16, .inl (yI, 80, .inl pr))]) (va_runV (As := [.int z, .int p0]) (rest := []) ⟨hx, hb, hml, hown, hts⟩ (c_X3_put l D yI yC yO (B 9) (B 10) 80 pg z p0 _ (by decide)) (cwV 2 hts gX5_add_X3_put rfl rfl rfl (by decide +kernel) ⟨Nat.le_of_ble_eq_true rfl, Nat.le_of_ble_eq_true rfl⟩) (lt_qV hK0 hPc hDc (va_recv hK hPc (ci := 3) (q0 := 0) rfl rfl)) rfl rfl hl.1 rfl (lv_room (Nat.le_of_ble_eq_true rfl)) dX5_add_19 ⟨Nat.zero_le _, Nat.zero_le _⟩) hP hD hS hA [1, 2] [0, 3, 4, 5, 6, 7, 8] rfl rfl (by decide) (by decide) (fun x_19 e_x_19 H locs hP hD hS => ?_)
    have hP := hP.sub (ws' := lt_Ps yI B z x_19 nu gu pr) [0, 7, 8, 1, 2, 3, 4, 5, 6] rfl
    have hD := hD.sub (ws' := lt_Ps yI B z x_19 nu gu pr) [0, 7, 8, 1, 2, 3, 4, 5, 6] (by decide) rfl
    refine lv_aload_n hx hb dX5_add_22 rfl (lv_at hl 0 rfl) ?_
    refine va_get (D := D) (ci := 5) (v := .ref (B 11)) (C := RX5) (T := TX5) (N := 5) hx hb hts iw_X5_add_5 hown hK hP 0 rfl rfl 1 (by decide) (hts (.fieldLink RX5 20 "LeafTurner$Pictures" "numbers" "LLeafTurner$Numbers;") (by decide +kernel)) (fun _ h9 => h9) rfl dX5_add_23 ?_
    refine lv_aload_n hx hb dX5_add_26 rfl (lv_at hl 0 rfl) ?_
    refine va_get (D := D) (ci := 5) (v := .int z) (C := RX5) (T := TX5) (N := 5) hx hb hts iw_X5_add_5 hown hK hP 0 rfl rfl 4 (by decide) (hts (.fieldLink RX5 29 "LeafTurner$Pictures" "size" "I") (by decide +kernel)) (fun _ h9 => h9) rfl dX5_add_27 ?_
    refine lv_iload_n hx hb dX5_add_30 rfl (lv_at hl 2 rfl) ?_
    have hPc := hP.sub (ws' := lt_N2 yI (B 11) (B 12) 80 nu) [3, 4] rfl
    have hDc := hD.sub (ws' := lt_N2 yI (B 11) (B 12) 80 nu) [3, 4] (by decide) rfl
    refine lt_cWv (wc := lt_N2 yI (B 11) (B 12) 80 nu) (wr := [(B 8, .inr (5, [.ref (B 9), .ref (B 11), .ref (B 13), .ref (B 15), .int z])), (B 9, .inr (3, [.ref (B 10)])), (B 10, .inl (yI, 80, .inl x_19)), (B 13, .inr (3, [.ref (B 14)])), (B 14, .inl (yI, 80, .inl gu)), (B 15, .inr (3, [.ref (B 16)])), (B 16, .inl (yI, 80, .inl pr))]) (va_runV (As := [.int z, .int p1]) (rest := []) ⟨hx, hb, hml, hown, hts⟩ (c_X3_put l D yI yC yO (B 11) (B 12) 80 nu z p1 _ (by decide)) (cwV 2 hts gX5_add_X3_put rfl rfl rfl (by decide +kernel) ⟨Nat.le_of_ble_eq_true rfl, Nat.le_of_ble_eq_true rfl⟩) (lt_qV hK0 hPc hDc (va_recv hK hPc (ci := 3) (q0 := 0) rfl rfl)) rfl rfl hl.1 rfl (lv_room (Nat.le_of_ble_eq_true rfl)) dX5_add_31 ⟨Nat.zero_le _, Nat.zero_le _⟩) hP hD hS hA [3, 4] [0, 1, 2, 5, 6, 7, 8] rfl rfl (by decide) (by decide) (fun x_31 e_x_31 H locs hP hD hS => ?_)
    have hP := hP.sub (ws' := lt_Ps yI B z x_19 x_31 gu pr) [0, 1, 2, 7, 8, 3, 4, 5, 6] rfl
    have hD := hD.sub (ws' := lt_Ps yI B z x_19 x_31 gu pr) [0, 1, 2, 7, 8, 3, 4, 5, 6] (by decide) rfl
    refine lv_aload_n hx hb dX5_add_34 rfl (lv_at hl 0 rfl) ?_
    refine va_get (D := D) (ci := 5) (v := .ref (B 13)) (C := RX5) (T := TX5) (N := 5) hx hb hts iw_X5_add_5 hown hK hP 0 rfl rfl 2 (by decide) (hts (.fieldLink RX5 23 "LeafTurner$Pictures" "gutters" "LLeafTurner$Numbers;") (by decide +kernel)) (fun _ h9 => h9) rfl dX5_add_35 ?_
    refine lv_aload_n hx hb dX5_add_38 rfl (lv_at hl 0 rfl) ?_
    refine va_get (D := D) (ci := 5) (v := .int z) (C := RX5) (T := TX5) (N := 5) hx hb hts iw_X5_add_5 hown hK hP 0 rfl rfl 4 (by decide) (hts (.fieldLink RX5 29 "LeafTurner$Pictures" "size" "I") (by decide +kernel)) (fun _ h9 => h9) rfl dX5_add_39 ?_
    refine lv_iload_n hx hb dX5_add_42 rfl (lv_at hl 3 rfl) ?_
    have hPc := hP.sub (ws' := ([] : va_W)) [] rfl
    refine lt_cR (va_runSN (As := [.int p2]) (rest := [.int z, .ref (B 13)]) ⟨hx, hb, hml, hown, hts⟩ (c_X7_asNumber l D yI yC yO p2 ) ⟨va_cnB 1 hts gX5_add_X7_asNumber_n41 rfl rfl rfl (hN _ lt_nw36) (hts (.initialized RX7) (by decide +kernel)) (by decide +kernel) ⟨Nat.le_of_ble_eq_true rfl, Nat.le_of_ble_eq_true rfl⟩, hts (.static yX7_asNumber) (by decide +kernel), trivial⟩ (lt_pS hK0 hPc) rfl rfl hl.1 rfl (lv_room (Nat.le_of_ble_eq_true rfl)) dX5_add_43 ⟨Nat.zero_le _, Nat.zero_le _⟩) (fun r_43 e_r_43 => ?_)
    have hPc := hP.sub (ws' := lt_N2 yI (B 13) (B 14) 80 gu) [5, 6] rfl
    have hDc := hD.sub (ws' := lt_N2 yI (B 13) (B 14) 80 gu) [5, 6] (by decide) rfl
    refine lt_cWv (wc := lt_N2 yI (B 13) (B 14) 80 gu) (wr := [(B 8, .inr (5, [.ref (B 9), .ref (B 11), .ref (B 13), .ref (B 15), .int z])), (B 9, .inr (3, [.ref (B 10)])), (B 10, .inl (yI, 80, .inl x_19)), (B 11, .inr (3, [.ref (B 12)])), (B 12, .inl (yI, 80, .inl x_31)), (B 15, .inr (3, [.ref (B 16)])), (B 16, .inl (yI, 80, .inl pr))]) (va_runV (As := [.int z, .int r_43]) (rest := []) ⟨hx, hb, hml, hown, hts⟩ (c_X3_put l D yI yC yO (B 13) (B 14) 80 gu z r_43 _ (by decide)) (cwV 2 hts gX5_add_X3_put rfl rfl rfl (by decide +kernel) ⟨Nat.le_of_ble_eq_true rfl, Nat.le_of_ble_eq_true rfl⟩) (lt_qV hK0 hPc hDc (va_recv hK hPc (ci := 3) (q0 := 0) rfl rfl)) rfl rfl hl.1 rfl (lv_room (Nat.le_of_ble_eq_true rfl)) dX5_add_46 ⟨Nat.zero_le _, Nat.zero_le _⟩) hP hD hS hA [5, 6] [0, 1, 2, 3, 4, 7, 8] rfl rfl (by decide) (by decide) (fun x_46 e_x_46 H locs hP hD hS => ?_)
    have hP := hP.sub (ws' := lt_Ps yI B z x_19 x_31 x_46 pr) [0, 1, 2, 3, 4, 7, 8, 5, 6] rfl
    have hD := hD.sub (ws' := lt_Ps yI B z x_19 x_31 x_46 pr) [0, 1, 2, 3, 4, 7, 8, 5, 6] (by decide) rfl
    refine lv_aload_n hx hb dX5_add_49 rfl (lv_at hl 0 rfl) ?_
    refine va_get (D := D) (ci := 5) (v := .ref (B 15)) (C := RX5) (T := TX5) (N := 5) hx hb hts iw_X5_add_5 hown hK hP 0 rfl rfl 3 (by decide) (hts (.fieldLink RX5 26 "LeafTurner$Pictures" "pairs" "LLeafTurner$Numbers;") (by decide +kernel)) (fun _ h9 => h9) rfl dX5_add_50 ?_
    refine lv_aload_n hx hb dX5_add_53 rfl (lv_at hl 0 rfl) ?_
    refine va_get (D := D) (ci := 5) (v := .int z) (C := RX5) (T := TX5) (N := 5) hx hb hts iw_X5_add_5 hown hK hP 0 rfl rfl 4 (by decide) (hts (.fieldLink RX5 29 "LeafTurner$Pictures" "size" "I") (by decide +kernel)) (fun _ h9 => h9) rfl dX5_add_54 ?_
    refine lv_iload hx hb dX5_add_57 (lv_at hl 4 rfl) ?_
    have hPc := hP.sub (ws' := lt_N2 yI (B 15) (B 16) 80 pr) [7, 8] rfl
    have hDc := hD.sub (ws' := lt_N2 yI (B 15) (B 16) 80 pr) [7, 8] (by decide) rfl
    refine lt_cWv (wc := lt_N2 yI (B 15) (B 16) 80 pr) (wr := [(B 8, .inr (5, [.ref (B 9), .ref (B 11), .ref (B 13), .ref (B 15), .int z])), (B 9, .inr (3, [.ref (B 10)])), (B 10, .inl (yI, 80, .inl x_19)), (B 11, .inr (3, [.ref (B 12)])), (B 12, .inl (yI, 80, .inl x_31)), (B 13, .inr (3, [.ref (B 14)])), (B 14, .inl (yI, 80, .inl x_46))]) (va_runV (As := [.int z, .int p3]) (rest := []) ⟨hx, hb, hml, hown, hts⟩ (c_X3_put l D yI yC yO (B 15) (B 16) 80 pr z p3 _ (by decide)) (cwV 2 hts gX5_add_X3_put rfl rfl rfl (by decide +kernel) ⟨Nat.le_of_ble_eq_true rfl, Nat.le_of_ble_eq_true rfl⟩) (lt_qV hK0 hPc hDc (va_recv hK hPc (ci := 3) (q0 := 0) rfl rfl)) rfl rfl hl.1 rfl (lv_room (Nat.le_of_ble_eq_true rfl)) dX5_add_59 ⟨Nat.zero_le _, Nat.zero_le _⟩) hP hD hS hA [7, 8] [0, 1, 2, 3, 4, 5, 6] rfl rfl (by decide) (by decide) (fun x_59 e_x_59 H locs hP hD hS => ?_)
    have hP := hP.sub (ws' := lt_Ps yI B z x_19 x_31 x_46 x_59) [0, 1, 2, 3, 4, 5, 6, 7, 8] rfl
    have hD := hD.sub (ws' := lt_Ps yI B z x_19 x_31 x_46 x_59) [0, 1, 2, 3, 4, 5, 6, 7, 8] (by decide) rfl
    refine lv_aload_n hx hb dX5_add_62 rfl (lv_at hl 0 rfl) ?_
    refine lv_dup hx hb dX5_add_63 rfl ?_
    refine va_get (D := D) (ci := 5) (v := .int z) (C := RX5) (T := TX5) (N := 5) hx hb hts iw_X5_add_5 hown hK hP 0 rfl rfl 4 (by decide) (hts (.fieldLink RX5 29 "LeafTurner$Pictures" "size" "I") (by decide +kernel)) (fun _ h9 => h9) rfl dX5_add_64 ?_
    refine lv_iconst (v := 1) hx hb dX5_add_67 (by decide) ?_
    refine lv_iadd hx hb dX5_add_68 ?_
    refine va_put (D := D) (ci := 5) (v := .int (z + 1)) (ty := .int) (C := RX5) (T := TX5) (N := 5) hx hb hts iw_X5_add_5 tyX5 tyX5_ok nmX5 hown hK hP hD hS 0 rfl rfl 4 (by decide) (hts (.fieldLink RX5 29 "LeafTurner$Pictures" "size" "I") (by decide +kernel)) (fun _ h9 => h9) rfl (by decide +kernel) rfl rfl (Nat.le_of_ble_eq_true rfl) dX5_add_69 (fun H locs hP hD hS => ?_)
    have hP : va_P D vwCl (lt_Ps yI B (z + 1) x_19 x_31 x_46 x_59) H := hP
    have hD : va_D A (lt_Ps yI B (z + 1) x_19 x_31 x_46 x_59) := hD
    exact W.vret hx hb hret (fun t ht hW => ⟨⟨((z + 1), x_19, x_31, x_46, x_59), rfl, (by subst e_x_59 e_x_46 e_r_43 e_x_31 e_x_19; exact (Eq.symm (Eq.trans (if_pos c_6) rfl))), by rw [ht]; exact hP, hD⟩, hS.F ht⟩) hS.2.2 dX5_add_72
  · exact W.vret hx hb hret (fun t ht hW => ⟨⟨(z, pg, nu, gu, pr), rfl, (Eq.symm (Eq.trans (if_neg c_6) rfl)), by rw [ht]; exact hP, hD⟩, hS.F ht⟩) hS.2.2 dX5_add_9

def X5_removeAt (z : Int32) (pg : Nat → Int32) (nu : Nat → Int32) (gu : Nat → Int32) (pr : Nat → Int32) (p0 : Int32) : (Int32) × (Nat → Int32) × (Nat → Int32) × (Nat → Int32) × (Nat → Int32) :=
  let r_2 := X5_has z pg nu gu pr p0
  if r_2 = 0 then
    (z, pg, nu, gu, pr)
  else
    let x_14 := X3_removeAt 80 pg p0
    let x_22 := X3_removeAt 80 nu p0
    let x_30 := X3_removeAt 80 gu p0
    let x_38 := X3_removeAt 80 pr p0
    ((z - 1), x_14, x_22, x_30, x_38)
theorem iw_X5_removeAt_5 : ∀ w ∈ wsX50, w ∈ wsX5_removeAt := by decide +kernel
set_option maxHeartbeats 4000000 in
set_option maxRecDepth 100000 in
theorem c_X5_removeAt (l : Launch) (D : va_G) (yI yC yO : ClassId) (B : Nat → Nat) (z : Int32) (pg : Nat → Int32) (nu : Nat → Int32) (gu : Nat → Int32) (pr : Nat → Int32) (p0 : Int32) (sz : Nat) : Met l yX5_removeAt wsX5_removeAt ({ frames := 2, cells := 0, slots := 0, locals := 60 }) (va_Pc [.ref (B 8), .int p0] (lt_M D yI yC yO (lt_Ps yI B z pg nu gu pr) sz)) (lt_Qv D (X5_removeAt z pg nu gu pr p0) (fun u => lt_Ps yI B u.1 u.2.1 u.2.2.1 u.2.2.2.1 u.2.2.2.2) (va_A (lt_Ps yI B z pg nu gu pr) sz)) 0 0 (va_A (lt_Ps yI B z pg nu gu pr) sz) := by
  refine Met.ofW (cc := cX5_removeAt) (maxL := 2) (ret := none) (by decide) rfl ?_
  intro p e s m args below meth c s₁ B0 hml hv
  obtain ⟨rfl, hsz, hP, hK0, hD0⟩ := hv
  have hx := B0.exec
  have hb := B0.bytes
  have hret := B0.returns
  have hts := atoms_spec (ws := wsX5_removeAt) B0.pre
  have hown : s.vm.findClass RX5 = some m.cls := findClass_of_methodNamed B0.named
  have hlocks := B0.notSynchronized
  have hK := hK0.1
  have hN := hK0.2
  subst hsz
  have hD := hD0.self (sz := s.heap.size)
  generalize hAe : va_A (lt_Ps yI B z pg nu gu pr) s.heap.size = A at hD ⊢
  have hA : ∀ q : Nat, s.heap.size ≤ q → A q := fun q h => by rw [← hAe]; exact Or.inr h
  have hS : va_S A s.heap s.heap [] := va_S.rf
  have hP : va_P D vwCl (lt_Ps yI B z pg nu gu pr) s.heap := hP
  have hD : va_D A (lt_Ps yI B z pg nu gu pr) := hD
  have hl := lv_entry ([.ref (B 8), .int p0]) (n := 2) (Nat.le_of_ble_eq_true rfl)
  rw [lg_entry_eq]
  generalize (lg_sl ([.ref (B 8), .int p0]) ++ List.replicate (2 - (lg_sl ([.ref (B 8), .int p0])).length) Slot.unset).toArray = ls at hl ⊢
  have hl : lv_has ls 2 [(0, .ref (B 8)), (1, .int p0)] := hl
  refine lv_aload_n hx hb dX5_removeAt_0 rfl (lv_at hl 0 rfl) ?_
  refine lv_iload_n hx hb dX5_removeAt_1 rfl (lv_at hl 1 rfl) ?_
  have hPc := hP.sub (ws' := lt_Ps yI B z pg nu gu pr) [0, 1, 2, 3, 4, 5, 6, 7, 8] rfl
  refine lt_cR (va_runV (As := [.int p0]) (rest := []) ⟨hx, hb, hml, hown, hts⟩ (c_X5_has l D yI yC yO B z pg nu gu pr p0 ) (cwV 1 hts gX5_removeAt_X5_has rfl rfl rfl (by decide +kernel) ⟨Nat.le_of_ble_eq_true rfl, Nat.le_of_ble_eq_true rfl⟩) (lt_pV hK0 hPc (va_recv hK hPc (ci := 5) (q0 := 0) rfl rfl)) rfl rfl hl.1 rfl (lv_room (Nat.le_of_ble_eq_true rfl)) dX5_removeAt_2 ⟨Nat.zero_le _, Nat.zero_le _⟩) (fun r_2 e_r_2 => ?_)
  refine lv_if_ne (tgt := 9) hx hb dX5_removeAt_5 (by decide) (fun c_5 => ?_) (fun c_5 => ?_)
  · refine lv_aload_n hx hb dX5_removeAt_9 rfl (lv_at hl 0 rfl) ?_
    refine va_get (D := D) (ci := 5) (v := .ref (B 9)) (C := RX5) (T := TX5) (N := 5) hx hb hts iw_X5_removeAt_5 hown hK hP 0 rfl rfl 0 (by decide) (hts (.fieldLink RX5 14 "LeafTurner$Pictures" "pages" "LLeafTurner$Numbers;") (by decide +kernel)) (fun _ h9 => h9) rfl dX5_removeAt_10 ?_
    refine lv_iload_n hx hb dX5_removeAt_13 rfl (lv_at hl 1 rfl) ?_
    have hPc := hP.sub (ws' := lt_N2 yI (B 9) (B 10) 80 pg) [1, 2] rfl
    have hDc := hD.sub (ws' := lt_N2 yI (B 9) (B 10) 80 pg) [1, 2] (by decide) rfl
    refine lt_cWv (wc := lt_N2 yI (B 9) (B 10) 80 pg) (wr := [(B 8, .inr (5, [.ref (B 9), .ref (B 11), .ref (B 13), .ref (B 15), .int z])), (B 11, .inr (3, [.ref (B 12)])), (B 12, .inl (yI, 80, .inl nu)), (B 13, .inr (3, [.ref (B 14)])), (B 14, .inl (yI, 80, .inl gu)), (B 15, .inr (3, [.ref (B 16)])), (B 16, .inl (yI, 80, .inl pr))]) (va_runV (As := [.int p0]) (rest := []) ⟨hx, hb, hml, hown, hts⟩ (c_X3_removeAt l D yI yC yO (B 9) (B 10) 80 pg p0 _ (by decide)) (cwV 1 hts gX5_removeAt_X3_removeAt rfl rfl rfl (by decide +kernel) ⟨Nat.le_of_ble_eq_true rfl, Nat.le_of_ble_eq_true rfl⟩) (lt_qV hK0 hPc hDc (va_recv hK hPc (ci := 3) (q0 := 0) rfl rfl)) rfl rfl hl.1 rfl (lv_room (Nat.le_of_ble_eq_true rfl)) dX5_removeAt_14 ⟨Nat.zero_le _, Nat.zero_le _⟩) hP hD hS hA [1, 2] [0, 3, 4, 5, 6, 7, 8] rfl rfl (by decide) (by decide) (fun x_14 e_x_14 H locs hP hD hS => ?_)
    have hP := hP.sub (ws' := lt_Ps yI B z x_14 nu gu pr) [0, 7, 8, 1, 2, 3, 4, 5, 6] rfl
    have hD := hD.sub (ws' := lt_Ps yI B z x_14 nu gu pr) [0, 7, 8, 1, 2, 3, 4, 5, 6] (by decide) rfl
    refine lv_aload_n hx hb dX5_removeAt_17 rfl (lv_at hl 0 rfl) ?_
    refine va_get (D := D) (ci := 5) (v := .ref (B 11)) (C := RX5) (T := TX5) (N := 5) hx hb hts iw_X5_removeAt_5 hown hK hP 0 rfl rfl 1 (by decide) (hts (.fieldLink RX5 20 "LeafTurner$Pictures" "numbers" "LLeafTurner$Numbers;") (by decide +kernel)) (fun _ h9 => h9) rfl dX5_removeAt_18 ?_
    refine lv_iload_n hx hb dX5_removeAt_21 rfl (lv_at hl 1 rfl) ?_
    have hPc := hP.sub (ws' := lt_N2 yI (B 11) (B 12) 80 nu) [3, 4] rfl
    have hDc := hD.sub (ws' := lt_N2 yI (B 11) (B 12) 80 nu) [3, 4] (by decide) rfl
    refine lt_cWv (wc := lt_N2 yI (B 11) (B 12) 80 nu) (wr := [(B 8, .inr (5, [.ref (B 9), .ref (B 11), .ref (B 13), .ref (B 15), .int z])), (B 9, .inr (3, [.ref (B 10)])), (B 10, .inl (yI, 80, .inl x_14)), (B 13, .inr (3, [.ref (B 14)])), (B 14, .inl (yI, 80, .inl gu)), (B 15, .inr (3, [.ref (B 16)])), (B 16, .inl (yI, 80, .inl pr))]) (va_runV (As := [.int p0]) (rest := []) ⟨hx, hb, hml, hown, hts⟩ (c_X3_removeAt l D yI yC yO (B 11) (B 12) 80 nu p0 _ (by decide)) (cwV 1 hts gX5_removeAt_X3_removeAt rfl rfl rfl (by decide +kernel) ⟨Nat.le_of_ble_eq_true rfl, Nat.le_of_ble_eq_true rfl⟩) (lt_qV hK0 hPc hDc (va_recv hK hPc (ci := 3) (q0 := 0) rfl rfl)) rfl rfl hl.1 rfl (lv_room (Nat.le_of_ble_eq_true rfl)) dX5_removeAt_22 ⟨Nat.zero_le _, Nat.zero_le _⟩) hP hD hS hA [3, 4] [0, 1, 2, 5, 6, 7, 8] rfl rfl (by decide) (by decide) (fun x_22 e_x_22 H locs hP hD hS => ?_)
    have hP := hP.sub (ws' := lt_Ps yI B z x_14 x_22 gu pr) [0, 1, 2, 7, 8, 3, 4, 5, 6] rfl
    have hD := hD.sub (ws' := lt_Ps yI B z x_14 x_22 gu pr) [0, 1, 2, 7, 8, 3, 4, 5, 6] (by decide) rfl
    refine lv_aload_n hx hb dX5_removeAt_25 rfl (lv_at hl 0 rfl) ?_
    refine va_get (D := D) (ci := 5) (v := .ref (B 13)) (C := RX5) (T := TX5) (N := 5) hx hb hts iw_X5_removeAt_5 hown hK hP 0 rfl rfl 2 (by decide) (hts (.fieldLink RX5 23 "LeafTurner$Pictures" "gutters" "LLeafTurner$Numbers;") (by decide +kernel)) (fun _ h9 => h9) rfl dX5_removeAt_26 ?_
    refine lv_iload_n hx hb dX5_removeAt_29 rfl (lv_at hl 1 rfl) ?_
    have hPc := hP.sub (ws' := lt_N2 yI (B 13) (B 14) 80 gu) [5, 6] rfl
    have hDc := hD.sub (ws' := lt_N2 yI (B 13) (B 14) 80 gu) [5, 6] (by decide) rfl
    refine lt_cWv (wc := lt_N2 yI (B 13) (B 14) 80 gu) (wr := [(B 8, .inr (5, [.ref (B 9), .ref (B 11), .ref (B 13), .ref (B 15), .int z])), (B 9, .inr (3, [.ref (B 10)])), (B 10, .inl (yI, 80, .inl x_14)), (B 11, .inr (3, [.ref (B 12)])), (B 12, .inl (yI, 80, .inl x_22)), (B 15, .inr (3, [.ref (B 16)])), (B 16, .inl (yI, 80, .inl pr))]) (va_runV (As := [.int p0]) (rest := []) ⟨hx, hb, hml, hown, hts⟩ (c_X3_removeAt l D yI yC yO (B 13) (B 14) 80 gu p0 _ (by decide)) (cwV 1 hts gX5_removeAt_X3_removeAt rfl rfl rfl (by decide +kernel) ⟨Nat.le_of_ble_eq_true rfl, Nat.le_of_ble_eq_true rfl⟩) (lt_qV hK0 hPc hDc (va_recv hK hPc (ci := 3) (q0 := 0) rfl rfl)) rfl rfl hl.1 rfl (lv_room (Nat.le_of_ble_eq_true rfl)) dX5_removeAt_30 ⟨Nat.zero_le _, Nat.zero_le _⟩) hP hD hS hA [5, 6] [0, 1, 2, 3, 4, 7, 8] rfl rfl (by decide) (by decide) (fun x_30 e_x_30 H locs hP hD hS => ?_)
    have hP := hP.sub (ws' := lt_Ps yI B z x_14 x_22 x_30 pr) [0, 1, 2, 3, 4, 7, 8, 5, 6] rfl
    have hD := hD.sub (ws' := lt_Ps yI B z x_14 x_22 x_30 pr) [0, 1, 2, 3, 4, 7, 8, 5, 6] (by decide) rfl
    refine lv_aload_n hx hb dX5_removeAt_33 rfl (lv_at hl 0 rfl) ?_
    refine va_get (D := D) (ci := 5) (v := .ref (B 15)) (C := RX5) (T := TX5) (N := 5) hx hb hts iw_X5_removeAt_5 hown hK hP 0 rfl rfl 3 (by decide) (hts (.fieldLink RX5 26 "LeafTurner$Pictures" "pairs" "LLeafTurner$Numbers;") (by decide +kernel)) (fun _ h9 => h9) rfl dX5_removeAt_34 ?_
    refine lv_iload_n hx hb dX5_removeAt_37 rfl (lv_at hl 1 rfl) ?_
    have hPc := hP.sub (ws' := lt_N2 yI (B 15) (B 16) 80 pr) [7, 8] rfl
    have hDc := hD.sub (ws' := lt_N2 yI (B 15) (B 16) 80 pr) [7, 8] (by decide) rfl
    refine lt_cWv (wc := lt_N2 yI (B 15) (B 16) 80 pr) (wr := [(B 8, .inr (5, [.ref (B 9), .ref (B 11), .ref (B 13), .ref (B 15), .int z])), (B 9, .inr (3, [.ref (B 10)])), (B 10, .inl (yI, 80, .inl x_14)), (B 11, .inr (3, [.ref (B 12)])), (B 12, .inl (yI, 80, .inl x_22)), (B 13, .inr (3, [.ref (B 14)])), (B 14, .inl (yI, 80, .inl x_30))]) (va_runV (As := [.int p0]) (rest := []) ⟨hx, hb, hml, hown, hts⟩ (c_X3_removeAt l D yI yC yO (B 15) (B 16) 80 pr p0 _ (by decide)) (cwV 1 hts gX5_removeAt_X3_removeAt rfl rfl rfl (by decide +kernel) ⟨Nat.le_of_ble_eq_true rfl, Nat.le_of_ble_eq_true rfl⟩) (lt_qV hK0 hPc hDc (va_recv hK hPc (ci := 3) (q0 := 0) rfl rfl)) rfl rfl hl.1 rfl (lv_room (Nat.le_of_ble_eq_true rfl)) dX5_removeAt_38 ⟨Nat.zero_le _, Nat.zero_le _⟩) hP hD hS hA [7, 8] [0, 1, 2, 3, 4, 5, 6] rfl rfl (by decide) (by decide) (fun x_38 e_x_38 H locs hP hD hS => ?_)
    have hP := hP.sub (ws' := lt_Ps yI B z x_14 x_22 x_30 x_38) [0, 1, 2, 3, 4, 5, 6, 7, 8] rfl
    have hD := hD.sub (ws' := lt_Ps yI B z x_14 x_22 x_30 x_38) [0, 1, 2, 3, 4, 5, 6, 7, 8] (by decide) rfl
    refine lv_aload_n hx hb dX5_removeAt_41 rfl (lv_at hl 0 rfl) ?_
    refine lv_dup hx hb dX5_removeAt_42 rfl ?_
    refine va_get (D := D) (ci := 5) (v := .int z) (C := RX5) (T := TX5) (N := 5) hx hb hts iw_X5_removeAt_5 hown hK hP 0 rfl rfl 4 (by decide) (hts (.fieldLink RX5 29 "LeafTurner$Pictures" "size" "I") (by decide +kernel)) (fun _ h9 => h9) rfl dX5_removeAt_43 ?_
    refine lv_iconst (v := 1) hx hb dX5_removeAt_46 (by decide) ?_
    refine lv_isub hx hb dX5_removeAt_47 ?_
    refine va_put (D := D) (ci := 5) (v := .int (z - 1)) (ty := .int) (C := RX5) (T := TX5) (N := 5) hx hb hts iw_X5_removeAt_5 tyX5 tyX5_ok nmX5 hown hK hP hD hS 0 rfl rfl 4 (by decide) (hts (.fieldLink RX5 29 "LeafTurner$Pictures" "size" "I") (by decide +kernel)) (fun _ h9 => h9) rfl (by decide +kernel) rfl rfl (Nat.le_of_ble_eq_true rfl) dX5_removeAt_48 (fun H locs hP hD hS => ?_)
    have hP : va_P D vwCl (lt_Ps yI B (z - 1) x_14 x_22 x_30 x_38) H := hP
    have hD : va_D A (lt_Ps yI B (z - 1) x_14 x_22 x_30 x_38) := hD
    exact W.vret hx hb hret (fun t ht hW => ⟨⟨((z - 1), x_14, x_22, x_30, x_38), rfl, (by subst e_x_38 e_x_30 e_x_22 e_x_14 e_r_2; exact (Eq.symm (Eq.trans (if_neg c_5) rfl))), by rw [ht]; exact hP, hD⟩, hS.F ht⟩) hS.2.2 dX5_removeAt_51
  · exact W.vret hx hb hret (fun t ht hW => ⟨⟨(z, pg, nu, gu, pr), rfl, (by subst e_r_2; exact (Eq.symm (Eq.trans (if_pos c_5) rfl))), by rw [ht]; exact hP, hD⟩, hS.F ht⟩) hS.2.2 dX5_removeAt_8

def X5_howManyShow_L4 (z : Int32) (pg : Nat → Int32) (nu : Nat → Int32) (gu : Nat → Int32) (pr : Nat → Int32) (p0 : Int32) : Nat → (Int32) → (Int32) → Int32
  | 0, _, _ => 0
  | fu + 1, v2, v3 =>
    if z ≤ v3 then
      v2
    else
      let r_17 := X3_at 80 pg v3
      if r_17 = p0 then
        X5_howManyShow_L4 z pg nu gu pr p0 fu (v2 + 1) (v3 + 1)
      else
        X5_howManyShow_L4 z pg nu gu pr p0 fu v2 (v3 + 1)
def X5_howManyShow (z : Int32) (pg : Nat → Int32) (nu : Nat → Int32) (gu : Nat → Int32) (pr : Nat → Int32) (p0 : Int32) : Int32 :=
  X5_howManyShow_L4 z pg nu gu pr p0 (((z : Int32).toInt - (0 : Int32).toInt).toNat + 1) 0 0
theorem iw_X5_howManyShow_5 : ∀ w ∈ wsX50, w ∈ wsX5_howManyShow := by decide +kernel
set_option maxHeartbeats 4000000 in
set_option maxRecDepth 100000 in
theorem c_X5_howManyShow (l : Launch) (D : va_G) (yI yC yO : ClassId) (B : Nat → Nat) (z : Int32) (pg : Nat → Int32) (nu : Nat → Int32) (gu : Nat → Int32) (pr : Nat → Int32) (p0 : Int32) : Met l yX5_howManyShow wsX5_howManyShow ({ frames := 2, cells := 0, slots := 0, locals := 60 }) (va_Pc [.ref (B 8), .int p0] (lt_R D yI yC yO (lt_Ps yI B z pg nu gu pr))) (lt_Si (X5_howManyShow z pg nu gu pr p0)) 0 0 (fun _ => False) := by
  refine Met.ofW (cc := cX5_howManyShow) (maxL := 4) (ret := (some .int)) (by decide) rfl ?_
  intro p e s m args below meth c s₁ B0 hml hv
  obtain ⟨rfl, hP, hK0⟩ := hv
  have hx := B0.exec
  have hb := B0.bytes
  have hret := B0.returns
  have hts := atoms_spec (ws := wsX5_howManyShow) B0.pre
  have hown : s.vm.findClass RX5 = some m.cls := findClass_of_methodNamed B0.named
  have hlocks := B0.notSynchronized
  have hK := hK0.1
  have hN := hK0.2
  have hP : va_P D vwCl (lt_Ps yI B z pg nu gu pr) s.heap := hP
  have hl := lv_entry ([.ref (B 8), .int p0]) (n := 4) (Nat.le_of_ble_eq_true rfl)
  rw [lg_entry_eq]
  generalize (lg_sl ([.ref (B 8), .int p0]) ++ List.replicate (4 - (lg_sl ([.ref (B 8), .int p0])).length) Slot.unset).toArray = ls at hl ⊢
  have hl : lv_has ls 4 [(0, .ref (B 8)), (1, .int p0)] := hl
  refine lv_iconst (v := 0) hx hb dX5_howManyShow_0 (by decide) ?_
  refine lv_istore_n (lv' := [(2, .int 0), (0, .ref (B 8)), (1, .int p0)]) hx hb dX5_howManyShow_1 rfl hl (by decide) rfl (fun ls hl => ?_)
  refine lv_iconst (v := 0) hx hb dX5_howManyShow_2 (by decide) ?_
  refine lv_istore_n (lv' := [(3, .int 0), (2, .int 0), (0, .ref (B 8)), (1, .int p0)]) hx hb dX5_howManyShow_3 rfl hl (by decide) rfl (fun ls hl => ?_)
  refine lt_loop (σ := (Int32) × (Int32)) (fun fu (x : (Int32) × (Int32)) H locs ls => ∃ (v2 : Int32) (v3 : Int32), x = (v2, v3) ∧ lt_fu fu (z) (v3) ∧ X5_howManyShow_L4 z pg nu gu pr p0 fu v2 v3 = X5_howManyShow z pg nu gu pr p0 ∧ H = s.heap ∧ locs = [] ∧ lv_has ls 4 [(3, .int v3), (2, .int v2), (0, .ref (B 8)), (1, .int p0)]) ?_ ?_ (((z : Int32).toInt - (0 : Int32).toInt).toNat + 1) (0, 0) _ _ _ ⟨0, 0, rfl, lt_fuI _ _, (Eq.symm rfl), rfl, rfl, (lv_sub hl [0, 1, 2, 3] rfl)⟩
  · rintro x H locs ls ⟨_, _, -, hF, -⟩
    exact lt_fu0 hF
  · rintro fu ih x H locs ls ⟨v2, v3, rfl, hF, hT, rfl, rfl, hl⟩
    refine lv_iload_n hx hb dX5_howManyShow_4 rfl (lv_at hl 0 rfl) ?_
    refine lv_aload_n hx hb dX5_howManyShow_5 rfl (lv_at hl 2 rfl) ?_
    refine va_get (D := D) (ci := 5) (v := .int z) (C := RX5) (T := TX5) (N := 5) hx hb hts iw_X5_howManyShow_5 hown hK hP 0 rfl rfl 4 (by decide) (hts (.fieldLink RX5 29 "LeafTurner$Pictures" "size" "I") (by decide +kernel)) (fun _ h9 => h9) rfl dX5_howManyShow_6 ?_
    refine lv_icmp_ge (tgt := 33) hx hb dX5_howManyShow_9 (by decide) (fun c_9 => ?_) (fun c_9 => ?_)
    · refine lv_iload_n hx hb dX5_howManyShow_33 rfl (lv_at hl 1 rfl) ?_
      exact W.iret (v := v2) hx hb hret (fun t ht hW => ⟨v2, rfl, (Eq.trans (Eq.symm (Eq.trans (if_pos c_9) rfl)) hT), ht⟩) (fun _ h => absurd h List.not_mem_nil) dX5_howManyShow_34
    · refine lv_aload_n hx hb dX5_howManyShow_12 rfl (lv_at hl 2 rfl) ?_
      refine va_get (D := D) (ci := 5) (v := .ref (B 9)) (C := RX5) (T := TX5) (N := 5) hx hb hts iw_X5_howManyShow_5 hown hK hP 0 rfl rfl 0 (by decide) (hts (.fieldLink RX5 14 "LeafTurner$Pictures" "pages" "LLeafTurner$Numbers;") (by decide +kernel)) (fun _ h9 => h9) rfl dX5_howManyShow_13 ?_
      refine lv_iload_n hx hb dX5_howManyShow_16 rfl (lv_at hl 0 rfl) ?_
      have hPc := hP.sub (ws' := lt_N2 yI (B 9) (B 10) 80 pg) [1, 2] rfl
      refine lt_cR (va_runV (As := [.int v3]) (rest := []) ⟨hx, hb, hml, hown, hts⟩ (c_X3_at l D yI yC yO (B 9) (B 10) 80 pg v3 (by decide)) (cwV 1 hts gX5_howManyShow_X3_at rfl rfl rfl (by decide +kernel) ⟨Nat.le_of_ble_eq_true rfl, Nat.le_of_ble_eq_true rfl⟩) (lt_pV hK0 hPc (va_recv hK hPc (ci := 3) (q0 := 0) rfl rfl)) rfl rfl hl.1 rfl (lv_room (Nat.le_of_ble_eq_true rfl)) dX5_howManyShow_17 ⟨Nat.zero_le _, Nat.zero_le _⟩) (fun r_17 e_r_17 => ?_)
      refine lv_iload_n hx hb dX5_howManyShow_20 rfl (lv_at hl 3 rfl) ?_
      refine lv_icmp_ne (tgt := 27) hx hb dX5_howManyShow_21 (by decide) (fun c_21 => ?_) (fun c_21 => ?_)
      · refine lv_iinc (v := (v3 + 1)) (lv' := [(3, .int (v3 + 1)), (2, .int v2), (0, .ref (B 8)), (1, .int p0)]) hx hb dX5_howManyShow_27 hl (k := 0) rfl (rfl) (by decide) rfl (fun ls hl => ?_)
        refine lv_goto (tgt := 4) hx hb dX5_howManyShow_30 (by decide) ?_
        exact ih (v2, (v3 + 1)) _ _ _ ⟨v2, (v3 + 1), rfl, lt_fuS hF (lt_nle c_9), (by subst e_r_17; exact (Eq.trans (Eq.symm (Eq.trans (if_neg c_9) (Eq.trans (if_neg c_21) rfl))) hT)), rfl, rfl, lv_sub hl [0, 1, 2, 3] rfl⟩
      · refine lv_iinc (v := (v2 + 1)) (lv' := [(2, .int (v2 + 1)), (3, .int v3), (0, .ref (B 8)), (1, .int p0)]) hx hb dX5_howManyShow_24 hl (k := 1) rfl (rfl) (by decide) rfl (fun ls hl => ?_)
        refine lv_iinc (v := (v3 + 1)) (lv' := [(3, .int (v3 + 1)), (2, .int (v2 + 1)), (0, .ref (B 8)), (1, .int p0)]) hx hb dX5_howManyShow_27 hl (k := 1) rfl (rfl) (by decide) rfl (fun ls hl => ?_)
        refine lv_goto (tgt := 4) hx hb dX5_howManyShow_30 (by decide) ?_
        exact ih ((v2 + 1), (v3 + 1)) _ _ _ ⟨(v2 + 1), (v3 + 1), rfl, lt_fuS hF (lt_nle c_9), (by subst e_r_17; exact (Eq.trans (Eq.symm (Eq.trans (if_neg c_9) (Eq.trans (if_pos c_21) rfl))) hT)), rfl, rfl, lv_sub hl [0, 1, 2, 3] rfl⟩

theorem iw_X5_copyFrom_5 : ∀ w ∈ wsX50, w ∈ wsX5_copyFrom := by decide +kernel
set_option maxHeartbeats 4000000 in
set_option maxRecDepth 100000 in
theorem c_X5_copyFrom (l : Launch) (D : va_G) (yI yC yO : ClassId) (B : Nat → Nat) (B' : Nat → Nat) (z : Int32) (pg : Nat → Int32) (nu : Nat → Int32) (gu : Nat → Int32) (pr : Nat → Int32) (z' : Int32) (pg' : Nat → Int32) (nu' : Nat → Int32) (gu' : Nat → Int32) (pr' : Nat → Int32) (sz : Nat) : Met l yX5_copyFrom wsX5_copyFrom ({ frames := 2, cells := 0, slots := 0, locals := 60 }) (va_Pc [.ref (B 8), .ref (B' 8)] (lt_M D yI yC yO (lt_Ps yI B z pg nu gu pr ++ lt_Ps yI B' z' pg' nu' gu' pr') sz)) (lt_Qv D (X5_copyFrom z pg nu gu pr z' pg' nu' gu' pr') (fun u => lt_Ps yI B u.1 u.2.1 u.2.2.1 u.2.2.2.1 u.2.2.2.2 ++ lt_Ps yI B' z' pg' nu' gu' pr') (va_A (lt_Ps yI B z pg nu gu pr ++ lt_Ps yI B' z' pg' nu' gu' pr') sz)) 0 0 (va_A (lt_Ps yI B z pg nu gu pr ++ lt_Ps yI B' z' pg' nu' gu' pr') sz) := by
  refine Met.ofW (cc := cX5_copyFrom) (maxL := 2) (ret := none) (by decide) rfl ?_
  intro p e s m args below meth c s₁ B0 hml hv
  obtain ⟨rfl, hsz, hP, hK0, hD0⟩ := hv
  have hx := B0.exec
  have hb := B0.bytes
  have hret := B0.returns
  have hts := atoms_spec (ws := wsX5_copyFrom) B0.pre
  have hown : s.vm.findClass RX5 = some m.cls := findClass_of_methodNamed B0.named
  have hlocks := B0.notSynchronized
  have hK := hK0.1
  have hN := hK0.2
  subst hsz
  have hD := hD0.self (sz := s.heap.size)
  generalize hAe : va_A (lt_Ps yI B z pg nu gu pr ++ lt_Ps yI B' z' pg' nu' gu' pr') s.heap.size = A at hD ⊢
  have hA : ∀ q : Nat, s.heap.size ≤ q → A q := fun q h => by rw [← hAe]; exact Or.inr h
  have hS : va_S A s.heap s.heap [] := va_S.rf
  have hP : va_P D vwCl (lt_Ps yI B z pg nu gu pr ++ lt_Ps yI B' z' pg' nu' gu' pr') s.heap := hP
  have hD : va_D A (lt_Ps yI B z pg nu gu pr ++ lt_Ps yI B' z' pg' nu' gu' pr') := hD
  have hl := lv_entry ([.ref (B 8), .ref (B' 8)]) (n := 2) (Nat.le_of_ble_eq_true rfl)
  rw [lg_entry_eq]
  generalize (lg_sl ([.ref (B 8), .ref (B' 8)]) ++ List.replicate (2 - (lg_sl ([.ref (B 8), .ref (B' 8)])).length) Slot.unset).toArray = ls at hl ⊢
  have hl : lv_has ls 2 [(0, .ref (B 8)), (1, .ref (B' 8))] := hl
  refine lv_aload_n hx hb dX5_copyFrom_0 rfl (lv_at hl 0 rfl) ?_
  refine va_get (D := D) (ci := 5) (v := .ref (B 9)) (C := RX5) (T := TX5) (N := 5) hx hb hts iw_X5_copyFrom_5 hown hK hP 0 rfl rfl 0 (by decide) (hts (.fieldLink RX5 14 "LeafTurner$Pictures" "pages" "LLeafTurner$Numbers;") (by decide +kernel)) (fun _ h9 => h9) rfl dX5_copyFrom_1 ?_
  refine lv_aload_n hx hb dX5_copyFrom_4 rfl (lv_at hl 1 rfl) ?_
  refine va_get (D := D) (ci := 5) (v := .ref (B' 9)) (C := RX5) (T := TX5) (N := 5) hx hb hts iw_X5_copyFrom_5 hown hK hP 9 rfl rfl 0 (by decide) (hts (.fieldLink RX5 14 "LeafTurner$Pictures" "pages" "LLeafTurner$Numbers;") (by decide +kernel)) (fun _ h9 => h9) rfl dX5_copyFrom_5 ?_
  have hPc := hP.sub (ws' := lt_N2 yI (B 9) (B 10) 80 pg ++ lt_N2 yI (B' 9) (B' 10) 80 pg') [1, 2, 10, 11] rfl
  have hDc := hD.sub (ws' := lt_N2 yI (B 9) (B 10) 80 pg ++ lt_N2 yI (B' 9) (B' 10) 80 pg') [1, 2, 10, 11] (by decide) rfl
  refine lt_cWv0 (wc := lt_N2 yI (B 9) (B 10) 80 pg ++ lt_N2 yI (B' 9) (B' 10) 80 pg') (wr := [(B 8, .inr (5, [.ref (B 9), .ref (B 11), .ref (B 13), .ref (B 15), .int z])), (B 11, .inr (3, [.ref (B 12)])), (B 12, .inl (yI, 80, .inl nu)), (B 13, .inr (3, [.ref (B 14)])), (B 14, .inl (yI, 80, .inl gu)), (B 15, .inr (3, [.ref (B 16)])), (B 16, .inl (yI, 80, .inl pr)), (B' 8, .inr (5, [.ref (B' 9), .ref (B' 11), .ref (B' 13), .ref (B' 15), .int z'])), (B' 11, .inr (3, [.ref (B' 12)])), (B' 12, .inl (yI, 80, .inl nu')), (B' 13, .inr (3, [.ref (B' 14)])), (B' 14, .inl (yI, 80, .inl gu')), (B' 15, .inr (3, [.ref (B' 16)])), (B' 16, .inl (yI, 80, .inl pr'))]) (va_runV (As := [.ref (B' 9)]) (rest := []) ⟨hx, hb, hml, hown, hts⟩ (c_X3_copyFrom l D yI yC yO (B 9) (B 10) 80 (B' 9) (B' 10) pg pg' _ (by decide)) (cwV 1 hts gX5_copyFrom_X3_copyFrom rfl rfl rfl (by decide +kernel) ⟨Nat.le_of_ble_eq_true rfl, Nat.le_of_ble_eq_true rfl⟩) (lt_qV hK0 hPc hDc (va_recv hK hPc (ci := 3) (q0 := 0) rfl rfl)) rfl rfl hl.1 rfl (lv_room (Nat.le_of_ble_eq_true rfl)) dX5_copyFrom_8 ⟨Nat.zero_le _, Nat.zero_le _⟩) hP hD hS hA [1, 2, 10, 11] [0, 3, 4, 5, 6, 7, 8, 9, 12, 13, 14, 15, 16, 17] rfl rfl (by decide) (by decide) (fun H locs hP hD hS => ?_)
  have hP := hP.sub (ws' := lt_Ps yI B z pg' nu gu pr ++ lt_Ps yI B' z' pg' nu' gu' pr') [0, 14, 15, 1, 2, 3, 4, 5, 6, 7, 16, 17, 8, 9, 10, 11, 12, 13] rfl
  have hD := hD.sub (ws' := lt_Ps yI B z pg' nu gu pr ++ lt_Ps yI B' z' pg' nu' gu' pr') [0, 14, 15, 1, 2, 3, 4, 5, 6, 7, 16, 17, 8, 9, 10, 11, 12, 13] (by decide) rfl
  refine lv_aload_n hx hb dX5_copyFrom_11 rfl (lv_at hl 0 rfl) ?_
  refine va_get (D := D) (ci := 5) (v := .ref (B 11)) (C := RX5) (T := TX5) (N := 5) hx hb hts iw_X5_copyFrom_5 hown hK hP 0 rfl rfl 1 (by decide) (hts (.fieldLink RX5 20 "LeafTurner$Pictures" "numbers" "LLeafTurner$Numbers;") (by decide +kernel)) (fun _ h9 => h9) rfl dX5_copyFrom_12 ?_
  refine lv_aload_n hx hb dX5_copyFrom_15 rfl (lv_at hl 1 rfl) ?_
  refine va_get (D := D) (ci := 5) (v := .ref (B' 11)) (C := RX5) (T := TX5) (N := 5) hx hb hts iw_X5_copyFrom_5 hown hK hP 9 rfl rfl 1 (by decide) (hts (.fieldLink RX5 20 "LeafTurner$Pictures" "numbers" "LLeafTurner$Numbers;") (by decide +kernel)) (fun _ h9 => h9) rfl dX5_copyFrom_16 ?_
  have hPc := hP.sub (ws' := lt_N2 yI (B 11) (B 12) 80 nu ++ lt_N2 yI (B' 11) (B' 12) 80 nu') [3, 4, 12, 13] rfl
  have hDc := hD.sub (ws' := lt_N2 yI (B 11) (B 12) 80 nu ++ lt_N2 yI (B' 11) (B' 12) 80 nu') [3, 4, 12, 13] (by decide) rfl
  refine lt_cWv0 (wc := lt_N2 yI (B 11) (B 12) 80 nu ++ lt_N2 yI (B' 11) (B' 12) 80 nu') (wr := [(B 8, .inr (5, [.ref (B 9), .ref (B 11), .ref (B 13), .ref (B 15), .int z])), (B 9, .inr (3, [.ref (B 10)])), (B 10, .inl (yI, 80, .inl pg')), (B 13, .inr (3, [.ref (B 14)])), (B 14, .inl (yI, 80, .inl gu)), (B 15, .inr (3, [.ref (B 16)])), (B 16, .inl (yI, 80, .inl pr)), (B' 8, .inr (5, [.ref (B' 9), .ref (B' 11), .ref (B' 13), .ref (B' 15), .int z'])), (B' 9, .inr (3, [.ref (B' 10)])), (B' 10, .inl (yI, 80, .inl pg')), (B' 13, .inr (3, [.ref (B' 14)])), (B' 14, .inl (yI, 80, .inl gu')), (B' 15, .inr (3, [.ref (B' 16)])), (B' 16, .inl (yI, 80, .inl pr'))]) (va_runV (As := [.ref (B' 11)]) (rest := []) ⟨hx, hb, hml, hown, hts⟩ (c_X3_copyFrom l D yI yC yO (B 11) (B 12) 80 (B' 11) (B' 12) nu nu' _ (by decide)) (cwV 1 hts gX5_copyFrom_X3_copyFrom rfl rfl rfl (by decide +kernel) ⟨Nat.le_of_ble_eq_true rfl, Nat.le_of_ble_eq_true rfl⟩) (lt_qV hK0 hPc hDc (va_recv hK hPc (ci := 3) (q0 := 0) rfl rfl)) rfl rfl hl.1 rfl (lv_room (Nat.le_of_ble_eq_true rfl)) dX5_copyFrom_19 ⟨Nat.zero_le _, Nat.zero_le _⟩) hP hD hS hA [3, 4, 12, 13] [0, 1, 2, 5, 6, 7, 8, 9, 10, 11, 14, 15, 16, 17] rfl rfl (by decide) (by decide) (fun H locs hP hD hS => ?_)
  have hP := hP.sub (ws' := lt_Ps yI B z pg' nu' gu pr ++ lt_Ps yI B' z' pg' nu' gu' pr') [0, 1, 2, 14, 15, 3, 4, 5, 6, 7, 8, 9, 16, 17, 10, 11, 12, 13] rfl
  have hD := hD.sub (ws' := lt_Ps yI B z pg' nu' gu pr ++ lt_Ps yI B' z' pg' nu' gu' pr') [0, 1, 2, 14, 15, 3, 4, 5, 6, 7, 8, 9, 16, 17, 10, 11, 12, 13] (by decide) rfl
  refine lv_aload_n hx hb dX5_copyFrom_22 rfl (lv_at hl 0 rfl) ?_
  refine va_get (D := D) (ci := 5) (v := .ref (B 13)) (C := RX5) (T := TX5) (N := 5) hx hb hts iw_X5_copyFrom_5 hown hK hP 0 rfl rfl 2 (by decide) (hts (.fieldLink RX5 23 "LeafTurner$Pictures" "gutters" "LLeafTurner$Numbers;") (by decide +kernel)) (fun _ h9 => h9) rfl dX5_copyFrom_23 ?_
  refine lv_aload_n hx hb dX5_copyFrom_26 rfl (lv_at hl 1 rfl) ?_
  refine va_get (D := D) (ci := 5) (v := .ref (B' 13)) (C := RX5) (T := TX5) (N := 5) hx hb hts iw_X5_copyFrom_5 hown hK hP 9 rfl rfl 2 (by decide) (hts (.fieldLink RX5 23 "LeafTurner$Pictures" "gutters" "LLeafTurner$Numbers;") (by decide +kernel)) (fun _ h9 => h9) rfl dX5_copyFrom_27 ?_
  have hPc := hP.sub (ws' := lt_N2 yI (B 13) (B 14) 80 gu ++ lt_N2 yI (B' 13) (B' 14) 80 gu') [5, 6, 14, 15] rfl
  have hDc := hD.sub (ws' := lt_N2 yI (B 13) (B 14) 80 gu ++ lt_N2 yI (B' 13) (B' 14) 80 gu') [5, 6, 14, 15] (by decide) rfl
  refine lt_cWv0 (wc := lt_N2 yI (B 13) (B 14) 80 gu ++ lt_N2 yI (B' 13) (B' 14) 80 gu') (wr := [(B 8, .inr (5, [.ref (B 9), .ref (B 11), .ref (B 13), .ref (B 15), .int z])), (B 9, .inr (3, [.ref (B 10)])), (B 10, .inl (yI, 80, .inl pg')), (B 11, .inr (3, [.ref (B 12)])), (B 12, .inl (yI, 80, .inl nu')), (B 15, .inr (3, [.ref (B 16)])), (B 16, .inl (yI, 80, .inl pr)), (B' 8, .inr (5, [.ref (B' 9), .ref (B' 11), .ref (B' 13), .ref (B' 15), .int z'])), (B' 9, .inr (3, [.ref (B' 10)])), (B' 10, .inl (yI, 80, .inl pg')), (B' 11, .inr (3, [.ref (B' 12)])), (B' 12, .inl (yI, 80, .inl nu')), (B' 15, .inr (3, [.ref (B' 16)])), (B' 16, .inl (yI, 80, .inl pr'))]) (va_runV (As := [.ref (B' 13)]) (rest := []) ⟨hx, hb, hml, hown, hts⟩ (c_X3_copyFrom l D yI yC yO (B 13) (B 14) 80 (B' 13) (B' 14) gu gu' _ (by decide)) (cwV 1 hts gX5_copyFrom_X3_copyFrom rfl rfl rfl (by decide +kernel) ⟨Nat.le_of_ble_eq_true rfl, Nat.le_of_ble_eq_true rfl⟩) (lt_qV hK0 hPc hDc (va_recv hK hPc (ci := 3) (q0 := 0) rfl rfl)) rfl rfl hl.1 rfl (lv_room (Nat.le_of_ble_eq_true rfl)) dX5_copyFrom_30 ⟨Nat.zero_le _, Nat.zero_le _⟩) hP hD hS hA [5, 6, 14, 15] [0, 1, 2, 3, 4, 7, 8, 9, 10, 11, 12, 13, 16, 17] rfl rfl (by decide) (by decide) (fun H locs hP hD hS => ?_)
  have hP := hP.sub (ws' := lt_Ps yI B z pg' nu' gu' pr ++ lt_Ps yI B' z' pg' nu' gu' pr') [0, 1, 2, 3, 4, 14, 15, 5, 6, 7, 8, 9, 10, 11, 16, 17, 12, 13] rfl
  have hD := hD.sub (ws' := lt_Ps yI B z pg' nu' gu' pr ++ lt_Ps yI B' z' pg' nu' gu' pr') [0, 1, 2, 3, 4, 14, 15, 5, 6, 7, 8, 9, 10, 11, 16, 17, 12, 13] (by decide) rfl
  refine lv_aload_n hx hb dX5_copyFrom_33 rfl (lv_at hl 0 rfl) ?_
  refine va_get (D := D) (ci := 5) (v := .ref (B 15)) (C := RX5) (T := TX5) (N := 5) hx hb hts iw_X5_copyFrom_5 hown hK hP 0 rfl rfl 3 (by decide) (hts (.fieldLink RX5 26 "LeafTurner$Pictures" "pairs" "LLeafTurner$Numbers;") (by decide +kernel)) (fun _ h9 => h9) rfl dX5_copyFrom_34 ?_
  refine lv_aload_n hx hb dX5_copyFrom_37 rfl (lv_at hl 1 rfl) ?_
  refine va_get (D := D) (ci := 5) (v := .ref (B' 15)) (C := RX5) (T := TX5) (N := 5) hx hb hts iw_X5_copyFrom_5 hown hK hP 9 rfl rfl 3 (by decide) (hts (.fieldLink RX5 26 "LeafTurner$Pictures" "pairs" "LLeafTurner$Numbers;") (by decide +kernel)) (fun _ h9 => h9) rfl dX5_copyFrom_38 ?_
  have hPc := hP.sub (ws' := lt_N2 yI (B 15) (B 16) 80 pr ++ lt_N2 yI (B' 15) (B' 16) 80 pr') [7, 8, 16, 17] rfl
  have hDc := hD.sub (ws' := lt_N2 yI (B 15) (B 16) 80 pr ++ lt_N2 yI (B' 15) (B' 16) 80 pr') [7, 8, 16, 17] (by decide) rfl
  refine lt_cWv0 (wc := lt_N2 yI (B 15) (B 16) 80 pr ++ lt_N2 yI (B' 15) (B' 16) 80 pr') (wr := [(B 8, .inr (5, [.ref (B 9), .ref (B 11), .ref (B 13), .ref (B 15), .int z])), (B 9, .inr (3, [.ref (B 10)])), (B 10, .inl (yI, 80, .inl pg')), (B 11, .inr (3, [.ref (B 12)])), (B 12, .inl (yI, 80, .inl nu')), (B 13, .inr (3, [.ref (B 14)])), (B 14, .inl (yI, 80, .inl gu')), (B' 8, .inr (5, [.ref (B' 9), .ref (B' 11), .ref (B' 13), .ref (B' 15), .int z'])), (B' 9, .inr (3, [.ref (B' 10)])), (B' 10, .inl (yI, 80, .inl pg')), (B' 11, .inr (3, [.ref (B' 12)])), (B' 12, .inl (yI, 80, .inl nu')), (B' 13, .inr (3, [.ref (B' 14)])), (B' 14, .inl (yI, 80, .inl gu'))]) (va_runV (As := [.ref (B' 15)]) (rest := []) ⟨hx, hb, hml, hown, hts⟩ (c_X3_copyFrom l D yI yC yO (B 15) (B 16) 80 (B' 15) (B' 16) pr pr' _ (by decide)) (cwV 1 hts gX5_copyFrom_X3_copyFrom rfl rfl rfl (by decide +kernel) ⟨Nat.le_of_ble_eq_true rfl, Nat.le_of_ble_eq_true rfl⟩) (lt_qV hK0 hPc hDc (va_recv hK hPc (ci := 3) (q0 := 0) rfl rfl)) rfl rfl hl.1 rfl (lv_room (Nat.le_of_ble_eq_true rfl)) dX5_copyFrom_41 ⟨Nat.zero_le _, Nat.zero_le _⟩) hP hD hS hA [7, 8, 16, 17] [0, 1, 2, 3, 4, 5, 6, 9, 10, 11, 12, 13, 14, 15] rfl rfl (by decide) (by decide) (fun H locs hP hD hS => ?_)
  have hP := hP.sub (ws' := lt_Ps yI B z pg' nu' gu' pr' ++ lt_Ps yI B' z' pg' nu' gu' pr') [0, 1, 2, 3, 4, 5, 6, 14, 15, 7, 8, 9, 10, 11, 12, 13, 16, 17] rfl
  have hD := hD.sub (ws' := lt_Ps yI B z pg' nu' gu' pr' ++ lt_Ps yI B' z' pg' nu' gu' pr') [0, 1, 2, 3, 4, 5, 6, 14, 15, 7, 8, 9, 10, 11, 12, 13, 16, 17] (by decide) rfl
  refine lv_aload_n hx hb dX5_copyFrom_44 rfl (lv_at hl 0 rfl) ?_
  refine lv_aload_n hx hb dX5_copyFrom_45 rfl (lv_at hl 1 rfl) ?_
  refine va_get (D := D) (ci := 5) (v := .int z') (C := RX5) (T := TX5) (N := 5) hx hb hts iw_X5_copyFrom_5 hown hK hP 9 rfl rfl 4 (by decide) (hts (.fieldLink RX5 29 "LeafTurner$Pictures" "size" "I") (by decide +kernel)) (fun _ h9 => h9) rfl dX5_copyFrom_46 ?_
  refine va_put (D := D) (ci := 5) (v := .int z') (ty := .int) (C := RX5) (T := TX5) (N := 5) hx hb hts iw_X5_copyFrom_5 tyX5 tyX5_ok nmX5 hown hK hP hD hS 0 rfl rfl 4 (by decide) (hts (.fieldLink RX5 29 "LeafTurner$Pictures" "size" "I") (by decide +kernel)) (fun _ h9 => h9) rfl (by decide +kernel) rfl rfl (Nat.le_of_ble_eq_true rfl) dX5_copyFrom_49 (fun H locs hP hD hS => ?_)
  have hP : va_P D vwCl (lt_Ps yI B z' pg' nu' gu' pr' ++ lt_Ps yI B' z' pg' nu' gu' pr') H := hP
  have hD : va_D A (lt_Ps yI B z' pg' nu' gu' pr' ++ lt_Ps yI B' z' pg' nu' gu' pr') := hD
  have hP : va_P D vwCl (lt_Ps yI B z' pg' nu' gu' pr' ++ lt_Ps yI B' z' pg' nu' gu' pr') H := hP
  have hD : va_D A (lt_Ps yI B z' pg' nu' gu' pr' ++ lt_Ps yI B' z' pg' nu' gu' pr') := hD
  exact W.vret hx hb hret (fun t ht hW => ⟨⟨(z', pg', nu', gu', pr'), rfl, rfl, by rw [ht]; exact hP, hD⟩, hS.F ht⟩) hS.2.2 dX5_copyFrom_52
