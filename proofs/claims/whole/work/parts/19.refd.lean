def X8_becomes (i : Nat → Int32) (a : Nat → Nat → Int32) (p0 : Int32) (p1 : Int32) : Int32 × ((Nat → Int32) × (Nat → Nat → Int32)) :=
  let v_6 := (a 0) p0.toNatClampNeg
  if v_6 = p1 then
    ((-5), (i, a))
  else
    let x_20 := X8_records i a
    (v_6, (x_20.1, (va_up x_20.2 0 (upd (x_20.2 0) p0.toNatClampNeg p1))))
def S_X8_becomes (i : Nat → Int32) (a : Nat → Nat → Int32) (p0 : Int32) (p1 : Int32) : Prop :=
  (vp_in p0 532) ∧
  ∀ v_6, v_6 = (a 0) p0.toNatClampNeg →
  (v_6 = p1 →
    True) ∧
  (¬ (v_6 = p1) →
    (S_X8_records i a) ∧
    ∀ x_20, x_20 = X8_records i a →
    (vp_in p0 532) ∧
    True)
theorem iw_X8_becomes_8 : ∀ w ∈ wsX80, w ∈ wsX8_becomes := by decide +kernel
set_option maxHeartbeats 4000000 in
set_option maxRecDepth 100000 in
theorem c_X8_becomes (l : Launch) (D : va_G) (yI yC yO : ClassId) (M : Nat → Nat) (i : Nat → Int32) (a : Nat → Nat → Int32) (p0 : Int32) (p1 : Int32) (sz : Nat) (hs : S_X8_becomes i a p0 p1) : Met l yX8_becomes wsX8_becomes ({ frames := 2, cells := 0, slots := 0, locals := 60 }) (va_Pc [.ref (M 0), .int p0, .int p1] (lt_M D yI yC yO (lt_Md yI yC M i a) sz)) (lt_Qi D (X8_becomes i a p0 p1) (fun u => lt_Md yI yC M u.1 u.2) (va_A (lt_Md yI yC M i a) sz)) 0 0 (va_A (lt_Md yI yC M i a) sz) := by
  refine Met.ofW (cc := cX8_becomes) (maxL := 4) (ret := (some .int)) (by decide) rfl ?_
  intro p e s m args below meth c s₁ B0 hml hv
  obtain ⟨rfl, hsz, hP, hK0, hD0⟩ := hv
  have hx := B0.exec
  have hb := B0.bytes
  have hret := B0.returns
  have hts := atoms_spec (ws := wsX8_becomes) B0.pre
  have hown : s.vm.findClass RX8 = some m.cls := findClass_of_methodNamed B0.named
  have hlocks := B0.notSynchronized
  have hK := hK0.1
  have hN := hK0.2
  subst hsz
  have hD := hD0.self (sz := s.heap.size)
  generalize hAe : va_A (lt_Md yI yC M i a) s.heap.size = A at hD ⊢
  have hA : ∀ q : Nat, s.heap.size ≤ q → A q := fun q h => by rw [← hAe]; exact Or.inr h
  have hS : va_S A s.heap s.heap [] := va_S.rf
  have hP : va_P D vwCl (lt_Md yI yC M i a) s.heap := hP
  have hD : va_D A (lt_Md yI yC M i a) := hD
  have hl := lv_entry ([.ref (M 0), .int p0, .int p1]) (n := 4) (Nat.le_of_ble_eq_true rfl)
  rw [lg_entry_eq]
  generalize (lg_sl ([.ref (M 0), .int p0, .int p1]) ++ List.replicate (4 - (lg_sl ([.ref (M 0), .int p0, .int p1])).length) Slot.unset).toArray = ls at hl ⊢
  have hl : lv_has ls 4 [(0, .ref (M 0)), (1, .int p0), (2, .int p1)] := hl
  refine lv_aload_n hx hb dX8_becomes_0 rfl (lv_at hl 0 rfl) ?_
  refine va_get (D := D) (ci := 8) (v := .ref (M 1)) (C := RX8) (T := TX8) (N := 13) hx hb hts iw_X8_becomes_8 hown hK hP 0 rfl rfl 0 (by decide) (hts (.fieldLink RX8 7 "LeafTurnerModel" "now" "[I") (by decide +kernel)) (fun _ h9 => h9) rfl dX8_becomes_1 ?_
  refine lv_iload_n hx hb dX8_becomes_4 rfl (lv_at hl 1 rfl) ?_
  have ho_5 := hs.1; have hs := hs.2
  refine va_iald hx hb hK hP 1 0 rfl rfl (i := p0) (ho_5) dX8_becomes_5 ?_
  refine lv_topi (fun v_6 e_v_6 => ?_)
  have hs := hs v_6 e_v_6
  refine lv_istore_n (lv' := [(3, .int v_6), (0, .ref (M 0)), (1, .int p0), (2, .int p1)]) hx hb dX8_becomes_6 rfl hl (by decide) rfl (fun ls hl => ?_)
  refine lv_iload_n hx hb dX8_becomes_7 rfl (lv_at hl 0 rfl) ?_
  refine lv_iload_n hx hb dX8_becomes_8 rfl (lv_at hl 3 rfl) ?_
  refine lv_icmp_ne (tgt := 15) hx hb dX8_becomes_9 (by decide) (fun c_9 => ?_) (fun c_9 => ?_)
  · have hs := hs.2 c_9
    refine lv_aload_n hx hb dX8_becomes_15 rfl (lv_at hl 1 rfl) ?_
    refine lv_aload_n hx hb dX8_becomes_16 rfl (lv_at hl 1 rfl) ?_
    refine va_get (D := D) (ci := 8) (v := .ref (M 1)) (C := RX8) (T := TX8) (N := 13) hx hb hts iw_X8_becomes_8 hown hK hP 0 rfl rfl 0 (by decide) (hts (.fieldLink RX8 7 "LeafTurnerModel" "now" "[I") (by decide +kernel)) (fun _ h9 => h9) rfl dX8_becomes_17 ?_
    have ho_20 := hs.1; have hs := hs.2
    have hPc := hP.sub (ws' := lt_Md yI yC M i a) [0, 1, 2, 3, 4, 5, 6, 7, 8] rfl
    have hDc := hD.sub (ws' := lt_Md yI yC M i a) [0, 1, 2, 3, 4, 5, 6, 7, 8] (by decide) rfl
    refine lt_cWv (wc := lt_Md yI yC M i a) (wr := []) (va_runV (As := [.ref (M 1)]) (rest := []) ⟨hx, hb, hml, hown, hts⟩ (c_X8_records l D yI yC yO M i a _ ho_20) (cwV 1 hts gX8_becomes_X8_records rfl rfl rfl (by decide +kernel) ⟨Nat.le_of_ble_eq_true rfl, Nat.le_of_ble_eq_true rfl⟩) (lt_qV hK0 hPc hDc (va_recv hK hPc (ci := 8) (q0 := 0) rfl rfl)) rfl rfl hl.1 rfl (lv_room (Nat.le_of_ble_eq_true rfl)) dX8_becomes_20 ⟨Nat.zero_le _, Nat.zero_le _⟩) hP hD hS hA [0, 1, 2, 3, 4, 5, 6, 7, 8] [] rfl rfl (by decide) (by decide) (fun x_20 e_x_20 H locs hP hD hS => ?_)
    have hP := hP.sub (ws' := lt_Md yI yC M x_20.1 x_20.2) [0, 1, 2, 3, 4, 5, 6, 7, 8] rfl
    have hD := hD.sub (ws' := lt_Md yI yC M x_20.1 x_20.2) [0, 1, 2, 3, 4, 5, 6, 7, 8] (by decide) rfl
    have hs := hs x_20 e_x_20
    refine lv_aload_n hx hb dX8_becomes_23 rfl (lv_at hl 1 rfl) ?_
    refine va_get (D := D) (ci := 8) (v := .ref (M 1)) (C := RX8) (T := TX8) (N := 13) hx hb hts iw_X8_becomes_8 hown hK hP 0 rfl rfl 0 (by decide) (hts (.fieldLink RX8 7 "LeafTurnerModel" "now" "[I") (by decide +kernel)) (fun _ h9 => h9) rfl dX8_becomes_24 ?_
    refine lv_iload_n hx hb dX8_becomes_27 rfl (lv_at hl 2 rfl) ?_
    refine lv_iload_n hx hb dX8_becomes_28 rfl (lv_at hl 3 rfl) ?_
    have ho_29 := hs.1; have hs := hs.2
    refine va_iast hx hb hK hP hD hS 1 0 rfl rfl (i := p0) (x := p1) (ho_29) dX8_becomes_29 (fun H locs hP hD hS => ?_)
    have hP : va_P D vwCl (lt_Md yI yC M x_20.1 (va_up x_20.2 0 (upd (x_20.2 0) p0.toNatClampNeg p1))) H := hP
    have hD : va_D A (lt_Md yI yC M x_20.1 (va_up x_20.2 0 (upd (x_20.2 0) p0.toNatClampNeg p1))) := hD
    refine lv_iload_n hx hb dX8_becomes_30 rfl (lv_at hl 0 rfl) ?_
    exact W.iret (v := v_6) hx hb hret (fun t ht hW => ⟨⟨v_6, (x_20.1, (va_up x_20.2 0 (upd (x_20.2 0) p0.toNatClampNeg p1))), rfl, (by subst e_x_20 e_v_6; exact (Eq.symm (Eq.trans (if_neg c_9) rfl))), by rw [ht]; exact hP, hD⟩, hS.F ht⟩) hS.2.2 dX8_becomes_31
  · have hs := hs.1 c_9
    refine lv_bipush (v := (-5)) hx hb dX8_becomes_12 (by decide) ?_
    exact W.iret (v := (-5)) hx hb hret (fun t ht hW => ⟨⟨(-5), (i, a), rfl, (by subst e_v_6; exact (Eq.symm (Eq.trans (if_pos c_9) rfl))), by rw [ht]; exact hP, hD⟩, hS.F ht⟩) hS.2.2 dX8_becomes_14

def X8_setSuction (i : Nat → Int32) (a : Nat → Nat → Int32) (p0 : Int32) : Int32 × ((Nat → Int32) × (Nat → Nat → Int32)) :=
  let r_4 := X8_in p0 1 20
  if r_4 = 0 then
    ((-2), (i, a))
  else
    let x_14 := X8_becomes i a 8 p0
    (x_14.1, (x_14.2.1, x_14.2.2))
def S_X8_setSuction (i : Nat → Int32) (a : Nat → Nat → Int32) (p0 : Int32) : Prop :=
  ∀ r_4, r_4 = X8_in p0 1 20 →
  (r_4 = 0 →
    True) ∧
  (¬ (r_4 = 0) →
    (S_X8_becomes i a 8 p0) ∧
    ∀ x_14, x_14 = X8_becomes i a 8 p0 →
    True)
set_option maxHeartbeats 4000000 in
set_option maxRecDepth 100000 in
theorem c_X8_setSuction (l : Launch) (D : va_G) (yI yC yO : ClassId) (M : Nat → Nat) (i : Nat → Int32) (a : Nat → Nat → Int32) (p0 : Int32) (sz : Nat) (hs : S_X8_setSuction i a p0) : Met l yX8_setSuction wsX8_setSuction ({ frames := 3, cells := 0, slots := 0, locals := 90 }) (va_Pc [.ref (M 0), .int p0] (lt_M D yI yC yO (lt_Md yI yC M i a) sz)) (lt_Qi D (X8_setSuction i a p0) (fun u => lt_Md yI yC M u.1 u.2) (va_A (lt_Md yI yC M i a) sz)) 0 0 (va_A (lt_Md yI yC M i a) sz) := by
  refine Met.ofW (cc := cX8_setSuction) (maxL := 2) (ret := (some .int)) (by decide) rfl ?_
  intro p e s m args below meth c s₁ B0 hml hv
  obtain ⟨rfl, hsz, hP, hK0, hD0⟩ := hv
  have hx := B0.exec
  have hb := B0.bytes
  have hret := B0.returns
  have hts := atoms_spec (ws := wsX8_setSuction) B0.pre
  have hown : s.vm.findClass RX8 = some m.cls := findClass_of_methodNamed B0.named
  have hlocks := B0.notSynchronized
  have hK := hK0.1
  have hN := hK0.2
  subst hsz
  have hD := hD0.self (sz := s.heap.size)
  generalize hAe : va_A (lt_Md yI yC M i a) s.heap.size = A at hD ⊢
  have hA : ∀ q : Nat, s.heap.size ≤ q → A q := fun q h => by rw [← hAe]; exact Or.inr h
  have hS : va_S A s.heap s.heap [] := va_S.rf
  have hP : va_P D vwCl (lt_Md yI yC M i a) s.heap := hP
  have hD : va_D A (lt_Md yI yC M i a) := hD
  have hl := lv_entry ([.ref (M 0), .int p0]) (n := 2) (Nat.le_of_ble_eq_true rfl)
  rw [lg_entry_eq]
  generalize (lg_sl ([.ref (M 0), .int p0]) ++ List.replicate (2 - (lg_sl ([.ref (M 0), .int p0])).length) Slot.unset).toArray = ls at hl ⊢
  have hl : lv_has ls 2 [(0, .ref (M 0)), (1, .int p0)] := hl
  refine lv_iload_n hx hb dX8_setSuction_0 rfl (lv_at hl 1 rfl) ?_
  refine lv_iconst (v := 1) hx hb dX8_setSuction_1 (by decide) ?_
  refine lv_bipush (v := 20) hx hb dX8_setSuction_2 (by decide) ?_
  have hPc := hP.sub (ws' := ([] : va_W)) [] rfl
  refine lt_cR (va_runS (As := [.int p0, .int 1, .int 20]) (rest := []) ⟨hx, hb, hml, hown, hts⟩ (c_X8_in l D yI yC yO p0 1 20 ) (va_cwS 3 hts gX8_setSuction_X8_in rfl rfl rfl (by decide +kernel) ⟨Nat.le_of_ble_eq_true rfl, Nat.le_of_ble_eq_true rfl⟩) (lt_pS hK0 hPc) rfl rfl hl.1 rfl (lv_room (Nat.le_of_ble_eq_true rfl)) dX8_setSuction_4 ⟨Nat.zero_le _, Nat.zero_le _⟩) (fun r_4 e_r_4 => ?_)
  have hs := hs r_4 e_r_4
  refine lv_if_eq (tgt := 20) hx hb dX8_setSuction_7 (by decide) (fun c_7 => ?_) (fun c_7 => ?_)
  · have hs := hs.1 c_7
    refine lv_bipush (v := (-2)) hx hb dX8_setSuction_20 (by decide) ?_
    exact W.iret (v := (-2)) hx hb hret (fun t ht hW => ⟨⟨(-2), (i, a), rfl, (by subst e_r_4; exact (Eq.symm (Eq.trans (if_pos c_7) rfl))), by rw [ht]; exact hP, hD⟩, hS.F ht⟩) hS.2.2 dX8_setSuction_22
  · have hs := hs.2 c_7
    refine lv_aload_n hx hb dX8_setSuction_10 rfl (lv_at hl 0 rfl) ?_
    refine lv_bipush (v := 8) hx hb dX8_setSuction_11 (by decide) ?_
    refine lv_iload_n hx hb dX8_setSuction_13 rfl (lv_at hl 1 rfl) ?_
    have ho_14 := hs.1; have hs := hs.2
    have hPc := hP.sub (ws' := lt_Md yI yC M i a) [0, 1, 2, 3, 4, 5, 6, 7, 8] rfl
    have hDc := hD.sub (ws' := lt_Md yI yC M i a) [0, 1, 2, 3, 4, 5, 6, 7, 8] (by decide) rfl
    refine lt_cWi (wc := lt_Md yI yC M i a) (wr := []) (va_runV (As := [.int 8, .int p0]) (rest := []) ⟨hx, hb, hml, hown, hts⟩ (c_X8_becomes l D yI yC yO M i a 8 p0 _ ho_14) (cwV 2 hts gX8_setSuction_X8_becomes rfl rfl rfl (by decide +kernel) ⟨Nat.le_of_ble_eq_true rfl, Nat.le_of_ble_eq_true rfl⟩) (lt_qV hK0 hPc hDc (va_recv hK hPc (ci := 8) (q0 := 0) rfl rfl)) rfl rfl hl.1 rfl (lv_room (Nat.le_of_ble_eq_true rfl)) dX8_setSuction_14 ⟨Nat.zero_le _, Nat.zero_le _⟩) hP hD hS hA [0, 1, 2, 3, 4, 5, 6, 7, 8] [] rfl rfl (by decide) (by decide) (fun x_14 e_x_14 H locs hP hD hS => ?_)
    have hP := hP.sub (ws' := lt_Md yI yC M x_14.2.1 x_14.2.2) [0, 1, 2, 3, 4, 5, 6, 7, 8] rfl
    have hD := hD.sub (ws' := lt_Md yI yC M x_14.2.1 x_14.2.2) [0, 1, 2, 3, 4, 5, 6, 7, 8] (by decide) rfl
    have hs := hs x_14 e_x_14
    refine lv_goto (tgt := 22) hx hb dX8_setSuction_17 (by decide) ?_
    exact W.iret (v := x_14.1) hx hb hret (fun t ht hW => ⟨⟨x_14.1, (x_14.2.1, x_14.2.2), rfl, (by subst e_x_14 e_r_4; exact (Eq.symm (Eq.trans (if_neg c_7) rfl))), by rw [ht]; exact hP, hD⟩, hS.F ht⟩) hS.2.2 dX8_setSuction_22

def X8_set (i : Nat → Int32) (a : Nat → Nat → Int32) (p0 : Int32) (p1 : Int32) : Int32 × ((Nat → Int32) × (Nat → Nat → Int32)) :=
  let r_3 := X8_in p0 0 2
  if r_3 = 0 then
    ((-2), (i, a))
  else
    if p0 = 0 then
      let r_31 := X8_in p1 0 10
      if r_31 = 0 then
        ((-2), (i, a))
      else
        let x_46 := X8_becomes i a (9 + p0) p1
        (x_46.1, (x_46.2.1, x_46.2.2))
    else
      if p0 = 1 then
        let r_31 := X8_in p1 0 1
        if r_31 = 0 then
          ((-2), (i, a))
        else
          let x_46 := X8_becomes i a (9 + p0) p1
          (x_46.1, (x_46.2.1, x_46.2.2))
      else
        let r_31 := X8_in p1 0 99
        if r_31 = 0 then
          ((-2), (i, a))
        else
          let x_46 := X8_becomes i a (9 + p0) p1
          (x_46.1, (x_46.2.1, x_46.2.2))
def S_X8_set (i : Nat → Int32) (a : Nat → Nat → Int32) (p0 : Int32) (p1 : Int32) : Prop :=
  ∀ r_3, r_3 = X8_in p0 0 2 →
  (r_3 = 0 →
    True) ∧
  (¬ (r_3 = 0) →
    (p0 = 0 →
      ∀ r_31, r_31 = X8_in p1 0 10 →
      (r_31 = 0 →
        True) ∧
      (¬ (r_31 = 0) →
        (S_X8_becomes i a (9 + p0) p1) ∧
        ∀ x_46, x_46 = X8_becomes i a (9 + p0) p1 →
        True)) ∧
    (¬ (p0 = 0) →
      (p0 = 1 →
        ∀ r_31, r_31 = X8_in p1 0 1 →
        (r_31 = 0 →
          True) ∧
        (¬ (r_31 = 0) →
          (S_X8_becomes i a (9 + p0) p1) ∧
          ∀ x_46, x_46 = X8_becomes i a (9 + p0) p1 →
          True)) ∧
      (¬ (p0 = 1) →
        ∀ r_31, r_31 = X8_in p1 0 99 →
        (r_31 = 0 →
          True) ∧
        (¬ (r_31 = 0) →
          (S_X8_becomes i a (9 + p0) p1) ∧
          ∀ x_46, x_46 = X8_becomes i a (9 + p0) p1 →
          True))))
set_option maxHeartbeats 4000000 in
set_option maxRecDepth 100000 in
theorem c_X8_set (l : Launch) (D : va_G) (yI yC yO : ClassId) (M : Nat → Nat) (i : Nat → Int32) (a : Nat → Nat → Int32) (p0 : Int32) (p1 : Int32) (sz : Nat) (hs : S_X8_set i a p0 p1) : Met l yX8_set wsX8_set ({ frames := 3, cells := 0, slots := 0, locals := 90 }) (va_Pc [.ref (M 0), .int p0, .int p1] (lt_M D yI yC yO (lt_Md yI yC M i a) sz)) (lt_Qi D (X8_set i a p0 p1) (fun u => lt_Md yI yC M u.1 u.2) (va_A (lt_Md yI yC M i a) sz)) 0 0 (va_A (lt_Md yI yC M i a) sz) := by
  refine Met.ofW (cc := cX8_set) (maxL := 3) (ret := (some .int)) (by decide) rfl ?_
  intro p e s m args below meth c s₁ B0 hml hv
  obtain ⟨rfl, hsz, hP, hK0, hD0⟩ := hv
  have hx := B0.exec
  have hb := B0.bytes
  have hret := B0.returns
  have hts := atoms_spec (ws := wsX8_set) B0.pre
  have hown : s.vm.findClass RX8 = some m.cls := findClass_of_methodNamed B0.named
  have hlocks := B0.notSynchronized
  have hK := hK0.1
  have hN := hK0.2
  subst hsz
  have hD := hD0.self (sz := s.heap.size)
  generalize hAe : va_A (lt_Md yI yC M i a) s.heap.size = A at hD ⊢
  have hA : ∀ q : Nat, s.heap.size ≤ q → A q := fun q h => by rw [← hAe]; exact Or.inr h
  have hS : va_S A s.heap s.heap [] := va_S.rf
  have hP : va_P D vwCl (lt_Md yI yC M i a) s.heap := hP
  have hD : va_D A (lt_Md yI yC M i a) := hD
  have hl := lv_entry ([.ref (M 0), .int p0, .int p1]) (n := 3) (Nat.le_of_ble_eq_true rfl)
  rw [lg_entry_eq]
  generalize (lg_sl ([.ref (M 0), .int p0, .int p1]) ++ List.replicate (3 - (lg_sl ([.ref (M 0), .int p0, .int p1])).length) Slot.unset).toArray = ls at hl ⊢
  have hl : lv_has ls 3 [(0, .ref (M 0)), (1, .int p0), (2, .int p1)] := hl
  refine lv_iload_n hx hb dX8_set_0 rfl (lv_at hl 1 rfl) ?_
  refine lv_iconst (v := 0) hx hb dX8_set_1 (by decide) ?_
  refine lv_iconst (v := 2) hx hb dX8_set_2 (by decide) ?_
  have hPc := hP.sub (ws' := ([] : va_W)) [] rfl
  refine lt_cR (va_runS (As := [.int p0, .int 0, .int 2]) (rest := []) ⟨hx, hb, hml, hown, hts⟩ (c_X8_in l D yI yC yO p0 0 2 ) (va_cwS 3 hts gX8_set_X8_in rfl rfl rfl (by decide +kernel) ⟨Nat.le_of_ble_eq_true rfl, Nat.le_of_ble_eq_true rfl⟩) (lt_pS hK0 hPc) rfl rfl hl.1 rfl (lv_room (Nat.le_of_ble_eq_true rfl)) dX8_set_3 ⟨Nat.zero_le _, Nat.zero_le _⟩) (fun r_3 e_r_3 => ?_)
  have hs := hs r_3 e_r_3
  refine lv_if_eq (tgt := 37) hx hb dX8_set_6 (by decide) (fun c_6 => ?_) (fun c_6 => ?_)
  · have hs := hs.1 c_6
    refine lv_bipush (v := (-2)) hx hb dX8_set_37 (by decide) ?_
    exact W.iret (v := (-2)) hx hb hret (fun t ht hW => ⟨⟨(-2), (i, a), rfl, (by subst e_r_3; exact (Eq.symm (Eq.trans (if_pos c_6) rfl))), by rw [ht]; exact hP, hD⟩, hS.F ht⟩) hS.2.2 dX8_set_39
  · have hs := hs.2 c_6
    refine lv_iload_n hx hb dX8_set_9 rfl (lv_at hl 2 rfl) ?_
    refine lv_iconst (v := 0) hx hb dX8_set_10 (by decide) ?_
    refine lv_iload_n hx hb dX8_set_11 rfl (lv_at hl 1 rfl) ?_
    refine lv_if_ne (tgt := 20) hx hb dX8_set_12 (by decide) (fun c_12 => ?_) (fun c_12 => ?_)
    · have hs := hs.2 c_12
      refine lv_iload_n hx hb dX8_set_20 rfl (lv_at hl 1 rfl) ?_
      refine lv_iconst (v := 1) hx hb dX8_set_21 (by decide) ?_
      refine lv_icmp_ne (tgt := 29) hx hb dX8_set_22 (by decide) (fun c_22 => ?_) (fun c_22 => ?_)
      · have hs := hs.2 c_22
        refine lv_bipush (v := 99) hx hb dX8_set_29 (by decide) ?_
        have hPc := hP.sub (ws' := ([] : va_W)) [] rfl
        refine lt_cR (va_runS (As := [.int p1, .int 0, .int 99]) (rest := []) ⟨hx, hb, hml, hown, hts⟩ (c_X8_in l D yI yC yO p1 0 99 ) (va_cwS 3 hts gX8_set_X8_in rfl rfl rfl (by decide +kernel) ⟨Nat.le_of_ble_eq_true rfl, Nat.le_of_ble_eq_true rfl⟩) (lt_pS hK0 hPc) rfl rfl hl.1 rfl (lv_room (Nat.le_of_ble_eq_true rfl)) dX8_set_31 ⟨Nat.zero_le _, Nat.zero_le _⟩) (fun r_31 e_r_31 => ?_)
        have hs := hs r_31 e_r_31
        refine lv_if_ne (tgt := 40) hx hb dX8_set_34 (by decide) (fun c_34 => ?_) (fun c_34 => ?_)
        · have hs := hs.2 c_34
          refine lv_aload_n hx hb dX8_set_40 rfl (lv_at hl 0 rfl) ?_
          refine lv_bipush (v := 9) hx hb dX8_set_41 (by decide) ?_
          refine lv_iload_n hx hb dX8_set_43 rfl (lv_at hl 1 rfl) ?_
          refine lv_iadd hx hb dX8_set_44 ?_
          refine lv_iload_n hx hb dX8_set_45 rfl (lv_at hl 2 rfl) ?_
          have ho_46 := hs.1; have hs := hs.2
          have hPc := hP.sub (ws' := lt_Md yI yC M i a) [0, 1, 2, 3, 4, 5, 6, 7, 8] rfl
          have hDc := hD.sub (ws' := lt_Md yI yC M i a) [0, 1, 2, 3, 4, 5, 6, 7, 8] (by decide) rfl
          refine lt_cWi (wc := lt_Md yI yC M i a) (wr := []) (va_runV (As := [.int (9 + p0), .int p1]) (rest := []) ⟨hx, hb, hml, hown, hts⟩ (c_X8_becomes l D yI yC yO M i a (9 + p0) p1 _ ho_46) (cwV 2 hts gX8_set_X8_becomes rfl rfl rfl (by decide +kernel) ⟨Nat.le_of_ble_eq_true rfl, Nat.le_of_ble_eq_true rfl⟩) (lt_qV hK0 hPc hDc (va_recv hK hPc (ci := 8) (q0 := 0) rfl rfl)) rfl rfl hl.1 rfl (lv_room (Nat.le_of_ble_eq_true rfl)) dX8_set_46 ⟨Nat.zero_le _, Nat.zero_le _⟩) hP hD hS hA [0, 1, 2, 3, 4, 5, 6, 7, 8] [] rfl rfl (by decide) (by decide) (fun x_46 e_x_46 H locs hP hD hS => ?_)
          have hP := hP.sub (ws' := lt_Md yI yC M x_46.2.1 x_46.2.2) [0, 1, 2, 3, 4, 5, 6, 7, 8] rfl
          have hD := hD.sub (ws' := lt_Md yI yC M x_46.2.1 x_46.2.2) [0, 1, 2, 3, 4, 5, 6, 7, 8] (by decide) rfl
          have hs := hs x_46 e_x_46
          exact W.iret (v := x_46.1) hx hb hret (fun t ht hW => ⟨⟨x_46.1, (x_46.2.1, x_46.2.2), rfl, (by subst e_x_46 e_r_31 e_r_3; exact (Eq.symm (Eq.trans (if_neg c_6) (Eq.trans (if_neg c_12) (Eq.trans (if_neg c_22) (Eq.trans (if_neg c_34) rfl)))))), by rw [ht]; exact hP, hD⟩, hS.F ht⟩) hS.2.2 dX8_set_49
        · have hs := hs.1 c_34
          refine lv_bipush (v := (-2)) hx hb dX8_set_37 (by decide) ?_
          exact W.iret (v := (-2)) hx hb hret (fun t ht hW => ⟨⟨(-2), (i, a), rfl, (by subst e_r_31 e_r_3; exact (Eq.symm (Eq.trans (if_neg c_6) (Eq.trans (if_neg c_12) (Eq.trans (if_neg c_22) (Eq.trans (if_pos c_34) rfl)))))), by rw [ht]; exact hP, hD⟩, hS.F ht⟩) hS.2.2 dX8_set_39
      · have hs := hs.1 c_22
        refine lv_iconst (v := 1) hx hb dX8_set_25 (by decide) ?_
        refine lv_goto (tgt := 31) hx hb dX8_set_26 (by decide) ?_
        have hPc := hP.sub (ws' := ([] : va_W)) [] rfl
        refine lt_cR (va_runS (As := [.int p1, .int 0, .int 1]) (rest := []) ⟨hx, hb, hml, hown, hts⟩ (c_X8_in l D yI yC yO p1 0 1 ) (va_cwS 3 hts gX8_set_X8_in rfl rfl rfl (by decide +kernel) ⟨Nat.le_of_ble_eq_true rfl, Nat.le_of_ble_eq_true rfl⟩) (lt_pS hK0 hPc) rfl rfl hl.1 rfl (lv_room (Nat.le_of_ble_eq_true rfl)) dX8_set_31 ⟨Nat.zero_le _, Nat.zero_le _⟩) (fun r_31 e_r_31 => ?_)
        have hs := hs r_31 e_r_31
        refine lv_if_ne (tgt := 40) hx hb dX8_set_34 (by decide) (fun c_34 => ?_) (fun c_34 => ?_)
        · have hs := hs.2 c_34
          refine lv_aload_n hx hb dX8_set_40 rfl (lv_at hl 0 rfl) ?_
          refine lv_bipush (v := 9) hx hb dX8_set_41 (by decide) ?_
          refine lv_iload_n hx hb dX8_set_43 rfl (lv_at hl 1 rfl) ?_
          refine lv_iadd hx hb dX8_set_44 ?_
          refine lv_iload_n hx hb dX8_set_45 rfl (lv_at hl 2 rfl) ?_
          have ho_46 := hs.1; have hs := hs.2
          have hPc := hP.sub (ws' := lt_Md yI yC M i a) [0, 1, 2, 3, 4, 5, 6, 7, 8] rfl
          have hDc := hD.sub (ws' := lt_Md yI yC M i a) [0, 1, 2, 3, 4, 5, 6, 7, 8] (by decide) rfl
          refine lt_cWi (wc := lt_Md yI yC M i a) (wr := []) (va_runV (As := [.int (9 + p0), .int p1]) (rest := []) ⟨hx, hb, hml, hown, hts⟩ (c_X8_becomes l D yI yC yO M i a (9 + p0) p1 _ ho_46) (cwV 2 hts gX8_set_X8_becomes rfl rfl rfl (by decide +kernel) ⟨Nat.le_of_ble_eq_true rfl, Nat.le_of_ble_eq_true rfl⟩) (lt_qV hK0 hPc hDc (va_recv hK hPc (ci := 8) (q0 := 0) rfl rfl)) rfl rfl hl.1 rfl (lv_room (Nat.le_of_ble_eq_true rfl)) dX8_set_46 ⟨Nat.zero_le _, Nat.zero_le _⟩) hP hD hS hA [0, 1, 2, 3, 4, 5, 6, 7, 8] [] rfl rfl (by decide) (by decide) (fun x_46 e_x_46 H locs hP hD hS => ?_)
          have hP := hP.sub (ws' := lt_Md yI yC M x_46.2.1 x_46.2.2) [0, 1, 2, 3, 4, 5, 6, 7, 8] rfl
          have hD := hD.sub (ws' := lt_Md yI yC M x_46.2.1 x_46.2.2) [0, 1, 2, 3, 4, 5, 6, 7, 8] (by decide) rfl
          have hs := hs x_46 e_x_46
          exact W.iret (v := x_46.1) hx hb hret (fun t ht hW => ⟨⟨x_46.1, (x_46.2.1, x_46.2.2), rfl, (by subst e_x_46 e_r_31 e_r_3; exact (Eq.symm (Eq.trans (if_neg c_6) (Eq.trans (if_neg c_12) (Eq.trans (if_pos c_22) (Eq.trans (if_neg c_34) rfl)))))), by rw [ht]; exact hP, hD⟩, hS.F ht⟩) hS.2.2 dX8_set_49
        · have hs := hs.1 c_34
          refine lv_bipush (v := (-2)) hx hb dX8_set_37 (by decide) ?_
          exact W.iret (v := (-2)) hx hb hret (fun t ht hW => ⟨⟨(-2), (i, a), rfl, (by subst e_r_31 e_r_3; exact (Eq.symm (Eq.trans (if_neg c_6) (Eq.trans (if_neg c_12) (Eq.trans (if_pos c_22) (Eq.trans (if_pos c_34) rfl)))))), by rw [ht]; exact hP, hD⟩, hS.F ht⟩) hS.2.2 dX8_set_39
    · have hs := hs.1 c_12
      refine lv_bipush (v := 10) hx hb dX8_set_15 (by decide) ?_
      refine lv_goto (tgt := 31) hx hb dX8_set_17 (by decide) ?_
      have hPc := hP.sub (ws' := ([] : va_W)) [] rfl
      refine lt_cR (va_runS (As := [.int p1, .int 0, .int 10]) (rest := []) ⟨hx, hb, hml, hown, hts⟩ (c_X8_in l D yI yC yO p1 0 10 ) (va_cwS 3 hts gX8_set_X8_in rfl rfl rfl (by decide +kernel) ⟨Nat.le_of_ble_eq_true rfl, Nat.le_of_ble_eq_true rfl⟩) (lt_pS hK0 hPc) rfl rfl hl.1 rfl (lv_room (Nat.le_of_ble_eq_true rfl)) dX8_set_31 ⟨Nat.zero_le _, Nat.zero_le _⟩) (fun r_31 e_r_31 => ?_)
      have hs := hs r_31 e_r_31
      refine lv_if_ne (tgt := 40) hx hb dX8_set_34 (by decide) (fun c_34 => ?_) (fun c_34 => ?_)
      · have hs := hs.2 c_34
        refine lv_aload_n hx hb dX8_set_40 rfl (lv_at hl 0 rfl) ?_
        refine lv_bipush (v := 9) hx hb dX8_set_41 (by decide) ?_
        refine lv_iload_n hx hb dX8_set_43 rfl (lv_at hl 1 rfl) ?_
        refine lv_iadd hx hb dX8_set_44 ?_
        refine lv_iload_n hx hb dX8_set_45 rfl (lv_at hl 2 rfl) ?_
        have ho_46 := hs.1; have hs := hs.2
        have hPc := hP.sub (ws' := lt_Md yI yC M i a) [0, 1, 2, 3, 4, 5, 6, 7, 8] rfl
        have hDc := hD.sub (ws' := lt_Md yI yC M i a) [0, 1, 2, 3, 4, 5, 6, 7, 8] (by decide) rfl
        refine lt_cWi (wc := lt_Md yI yC M i a) (wr := []) (va_runV (As := [.int (9 + p0), .int p1]) (rest := []) ⟨hx, hb, hml, hown, hts⟩ (c_X8_becomes l D yI yC yO M i a (9 + p0) p1 _ ho_46) (cwV 2 hts gX8_set_X8_becomes rfl rfl rfl (by decide +kernel) ⟨Nat.le_of_ble_eq_true rfl, Nat.le_of_ble_eq_true rfl⟩) (lt_qV hK0 hPc hDc (va_recv hK hPc (ci := 8) (q0 := 0) rfl rfl)) rfl rfl hl.1 rfl (lv_room (Nat.le_of_ble_eq_true rfl)) dX8_set_46 ⟨Nat.zero_le _, Nat.zero_le _⟩) hP hD hS hA [0, 1, 2, 3, 4, 5, 6, 7, 8] [] rfl rfl (by decide) (by decide) (fun x_46 e_x_46 H locs hP hD hS => ?_)
        have hP := hP.sub (ws' := lt_Md yI yC M x_46.2.1 x_46.2.2) [0, 1, 2, 3, 4, 5, 6, 7, 8] rfl
        have hD := hD.sub (ws' := lt_Md yI yC M x_46.2.1 x_46.2.2) [0, 1, 2, 3, 4, 5, 6, 7, 8] (by decide) rfl
        have hs := hs x_46 e_x_46
        exact W.iret (v := x_46.1) hx hb hret (fun t ht hW => ⟨⟨x_46.1, (x_46.2.1, x_46.2.2), rfl, (by subst e_x_46 e_r_31 e_r_3; exact (Eq.symm (Eq.trans (if_neg c_6) (Eq.trans (if_pos c_12) (Eq.trans (if_neg c_34) rfl))))), by rw [ht]; exact hP, hD⟩, hS.F ht⟩) hS.2.2 dX8_set_49
      · have hs := hs.1 c_34
        refine lv_bipush (v := (-2)) hx hb dX8_set_37 (by decide) ?_
        exact W.iret (v := (-2)) hx hb hret (fun t ht hW => ⟨⟨(-2), (i, a), rfl, (by subst e_r_31 e_r_3; exact (Eq.symm (Eq.trans (if_neg c_6) (Eq.trans (if_pos c_12) (Eq.trans (if_pos c_34) rfl))))), by rw [ht]; exact hP, hD⟩, hS.F ht⟩) hS.2.2 dX8_set_39

def X8_undo (i : Nat → Int32) (a : Nat → Nat → Int32) : Int32 × ((Nat → Int32) × (Nat → Nat → Int32)) :=
  if (i 0) = 0 then
    ((-5), (i, a))
  else
    let x_37 := X8_lays 2128 532 (a 2) (a 0) (532 * ((i 0) - 1)) 0
    (((i 0) - 1), ((upd i 0 ((i 0) - 1)), (va_up a 0 x_37)))
def S_X8_undo (i : Nat → Int32) (a : Nat → Nat → Int32) : Prop :=
  ((i 0) = 0 →
    True) ∧
  (¬ ((i 0) = 0) →
    (S_X8_lays 2128 532 (a 2) (a 0) (532 * ((i 0) - 1)) 0) ∧
    ∀ x_37, x_37 = X8_lays 2128 532 (a 2) (a 0) (532 * ((i 0) - 1)) 0 →
    True)
theorem iw_X8_undo_8 : ∀ w ∈ wsX80, w ∈ wsX8_undo := by decide +kernel
set_option maxHeartbeats 4000000 in
set_option maxRecDepth 100000 in
theorem c_X8_undo (l : Launch) (D : va_G) (yI yC yO : ClassId) (M : Nat → Nat) (i : Nat → Int32) (a : Nat → Nat → Int32) (sz : Nat) (hs : S_X8_undo i a) : Met l yX8_undo wsX8_undo ({ frames := 1, cells := 0, slots := 0, locals := 30 }) (va_Pc [.ref (M 0)] (lt_M D yI yC yO (lt_Md yI yC M i a) sz)) (lt_Qi D (X8_undo i a) (fun u => lt_Md yI yC M u.1 u.2) (va_A (lt_Md yI yC M i a) sz)) 0 0 (va_A (lt_Md yI yC M i a) sz) := by
  refine Met.ofW (cc := cX8_undo) (maxL := 1) (ret := (some .int)) (by decide) rfl ?_
  intro p e s m args below meth c s₁ B0 hml hv
  obtain ⟨rfl, hsz, hP, hK0, hD0⟩ := hv
  have hx := B0.exec
  have hb := B0.bytes
  have hret := B0.returns
  have hts := atoms_spec (ws := wsX8_undo) B0.pre
  have hown : s.vm.findClass RX8 = some m.cls := findClass_of_methodNamed B0.named
  have hlocks := B0.notSynchronized
  have hK := hK0.1
  have hN := hK0.2
  subst hsz
  have hD := hD0.self (sz := s.heap.size)
  generalize hAe : va_A (lt_Md yI yC M i a) s.heap.size = A at hD ⊢
  have hA : ∀ q : Nat, s.heap.size ≤ q → A q := fun q h => by rw [← hAe]; exact Or.inr h
  have hS : va_S A s.heap s.heap [] := va_S.rf
  have hP : va_P D vwCl (lt_Md yI yC M i a) s.heap := hP
  have hD : va_D A (lt_Md yI yC M i a) := hD
  have hl := lv_entry ([.ref (M 0)]) (n := 1) (Nat.le_of_ble_eq_true rfl)
  rw [lg_entry_eq]
  generalize (lg_sl ([.ref (M 0)]) ++ List.replicate (1 - (lg_sl ([.ref (M 0)])).length) Slot.unset).toArray = ls at hl ⊢
  have hl : lv_has ls 1 [(0, .ref (M 0))] := hl
  refine lv_aload_n hx hb dX8_undo_0 rfl (lv_at hl 0 rfl) ?_
  refine va_get (D := D) (ci := 8) (v := .int (i 0)) (C := RX8) (T := TX8) (N := 13) hx hb hts iw_X8_undo_8 hown hK hP 0 rfl rfl 3 (by decide) (hts (.fieldLink RX8 35 "LeafTurnerModel" "states" "I") (by decide +kernel)) (fun _ h9 => h9) rfl dX8_undo_1 ?_
  refine lv_if_ne (tgt := 10) hx hb dX8_undo_4 (by decide) (fun c_4 => ?_) (fun c_4 => ?_)
  · have hs := hs.2 c_4
    refine lv_aload_n hx hb dX8_undo_10 rfl (lv_at hl 0 rfl) ?_
    refine lv_dup hx hb dX8_undo_11 rfl ?_
    refine va_get (D := D) (ci := 8) (v := .int (i 0)) (C := RX8) (T := TX8) (N := 13) hx hb hts iw_X8_undo_8 hown hK hP 0 rfl rfl 3 (by decide) (hts (.fieldLink RX8 35 "LeafTurnerModel" "states" "I") (by decide +kernel)) (fun _ h9 => h9) rfl dX8_undo_12 ?_
    refine lv_iconst (v := 1) hx hb dX8_undo_15 (by decide) ?_
    refine lv_isub hx hb dX8_undo_16 ?_
    refine va_put (D := D) (ci := 8) (v := .int ((i 0) - 1)) (ty := .int) (C := RX8) (T := TX8) (N := 13) hx hb hts iw_X8_undo_8 tyX8 tyX8_ok nmX8 hown hK hP hD hS 0 rfl rfl 3 (by decide) (hts (.fieldLink RX8 35 "LeafTurnerModel" "states" "I") (by decide +kernel)) (fun _ h9 => h9) rfl (by decide +kernel) rfl rfl (Nat.le_of_ble_eq_true rfl) dX8_undo_17 (fun H locs hP hD hS => ?_)
    have hP : va_P D vwCl (lt_Md yI yC M (upd i 0 ((i 0) - 1)) a) H := hP
    have hD : va_D A (lt_Md yI yC M (upd i 0 ((i 0) - 1)) a) := hD
    refine lv_aload_n hx hb dX8_undo_20 rfl (lv_at hl 0 rfl) ?_
    refine va_get (D := D) (ci := 8) (v := .ref (M 3)) (C := RX8) (T := TX8) (N := 13) hx hb hts iw_X8_undo_8 hown hK hP 0 rfl rfl 2 (by decide) (hts (.fieldLink RX8 16 "LeafTurnerModel" "past" "[I") (by decide +kernel)) (fun _ h9 => h9) rfl dX8_undo_21 ?_
    refine lv_sipush (v := 532) hx hb dX8_undo_24 (by decide) ?_
    refine lv_aload_n hx hb dX8_undo_27 rfl (lv_at hl 0 rfl) ?_
    refine va_get (D := D) (ci := 8) (v := .int ((i 0) - 1)) (C := RX8) (T := TX8) (N := 13) hx hb hts iw_X8_undo_8 hown hK hP 0 rfl rfl 3 (by decide) (hts (.fieldLink RX8 35 "LeafTurnerModel" "states" "I") (by decide +kernel)) (fun _ h9 => h9) rfl dX8_undo_28 ?_
    refine lv_imul hx hb dX8_undo_31 ?_
    refine lv_aload_n hx hb dX8_undo_32 rfl (lv_at hl 0 rfl) ?_
    refine va_get (D := D) (ci := 8) (v := .ref (M 1)) (C := RX8) (T := TX8) (N := 13) hx hb hts iw_X8_undo_8 hown hK hP 0 rfl rfl 0 (by decide) (hts (.fieldLink RX8 7 "LeafTurnerModel" "now" "[I") (by decide +kernel)) (fun _ h9 => h9) rfl dX8_undo_33 ?_
    refine lv_iconst (v := 0) hx hb dX8_undo_36 (by decide) ?_
    have ho_37 := hs.1; have hs := hs.2
    have hPc := hP.sub (ws' := lt_Ro yI (M 3) 2128 (a 2) ++ lt_Ro yI (M 1) 532 (a 0)) [3, 1] rfl
    have hDc := hD.sub (ws' := lt_Ro yI (M 3) 2128 (a 2) ++ lt_Ro yI (M 1) 532 (a 0)) [3, 1] (by decide) rfl
    refine lt_cWv (wc := lt_Ro yI (M 3) 2128 (a 2) ++ lt_Ro yI (M 1) 532 (a 0)) (wr := [(M 0, .inr (8, [.ref (M 1), .ref (M 2), .ref (M 3), .int ((i 0) - 1), .ref (M 4), .int (i 1), .ref (M 5), .int (i 2), .ref (M 6), .ref (M 7), .int (i 3), .ref (M 8), .int (i 4)])), (M 2, .inl (yI, 532, .inl (a 1))), (M 4, .inl (yI, 532, .inl (a 3))), (M 5, .inl (yC, 60, .inl (a 4))), (M 6, .inl (yI, 80, .inl (a 5))), (M 7, .inl (yI, 60, .inl (a 6))), (M 8, .inl (yI, 93, .inl (a 7)))]) (va_runS (As := [.ref (M 3), .int (532 * ((i 0) - 1)), .ref (M 1), .int 0]) (rest := []) ⟨hx, hb, hml, hown, hts⟩ (c_X8_lays l D yI yC yO (M 3) 2128 (M 1) 532 (a 2) (a 0) (532 * ((i 0) - 1)) 0 _ ho_37) (va_cwS 4 hts gX8_undo_X8_lays rfl rfl rfl (by decide +kernel) ⟨Nat.le_of_ble_eq_true rfl, Nat.le_of_ble_eq_true rfl⟩) (lt_qS hK0 hPc hDc) rfl rfl hl.1 rfl (lv_room (Nat.le_of_ble_eq_true rfl)) dX8_undo_37 ⟨Nat.zero_le _, Nat.zero_le _⟩) hP hD hS hA [3, 1] [0, 2, 4, 5, 6, 7, 8] rfl rfl (by decide) (by decide) (fun x_37 e_x_37 H locs hP hD hS => ?_)
    have hP := hP.sub (ws' := lt_Md yI yC M (upd i 0 ((i 0) - 1)) (va_up a 0 x_37)) [0, 8, 1, 7, 2, 3, 4, 5, 6] rfl
    have hD := hD.sub (ws' := lt_Md yI yC M (upd i 0 ((i 0) - 1)) (va_up a 0 x_37)) [0, 8, 1, 7, 2, 3, 4, 5, 6] (by decide) rfl
    have hs := hs x_37 e_x_37
    refine lv_aload_n hx hb dX8_undo_40 rfl (lv_at hl 0 rfl) ?_
    refine va_get (D := D) (ci := 8) (v := .int ((i 0) - 1)) (C := RX8) (T := TX8) (N := 13) hx hb hts iw_X8_undo_8 hown hK hP 0 rfl rfl 3 (by decide) (hts (.fieldLink RX8 35 "LeafTurnerModel" "states" "I") (by decide +kernel)) (fun _ h9 => h9) rfl dX8_undo_41 ?_
    exact W.iret (v := ((i 0) - 1)) hx hb hret (fun t ht hW => ⟨⟨((i 0) - 1), ((upd i 0 ((i 0) - 1)), (va_up a 0 x_37)), rfl, (by subst e_x_37; exact (Eq.symm (Eq.trans (if_neg c_4) rfl))), by rw [ht]; exact hP, hD⟩, hS.F ht⟩) hS.2.2 dX8_undo_44
  · have hs := hs.1 c_4
    refine lv_bipush (v := (-5)) hx hb dX8_undo_7 (by decide) ?_
    exact W.iret (v := (-5)) hx hb hret (fun t ht hW => ⟨⟨(-5), (i, a), rfl, (Eq.symm (Eq.trans (if_pos c_4) rfl)), by rw [ht]; exact hP, hD⟩, hS.F ht⟩) hS.2.2 dX8_undo_9

def X8_keep (i : Nat → Int32) (a : Nat → Nat → Int32) : Int32 × ((Nat → Int32) × (Nat → Nat → Int32)) :=
  let x_10 := X8_lays 532 532 (a 0) (a 3) 0 0
  (((a 0) 2), ((upd i 1 1), (va_up a 3 x_10)))
def S_X8_keep (i : Nat → Int32) (a : Nat → Nat → Int32) : Prop :=
  (S_X8_lays 532 532 (a 0) (a 3) 0 0) ∧
  ∀ x_10, x_10 = X8_lays 532 532 (a 0) (a 3) 0 0 →
  True
theorem iw_X8_keep_8 : ∀ w ∈ wsX80, w ∈ wsX8_keep := by decide +kernel
set_option maxHeartbeats 4000000 in
set_option maxRecDepth 100000 in
theorem c_X8_keep (l : Launch) (D : va_G) (yI yC yO : ClassId) (M : Nat → Nat) (i : Nat → Int32) (a : Nat → Nat → Int32) (sz : Nat) (hs : S_X8_keep i a) : Met l yX8_keep wsX8_keep ({ frames := 1, cells := 0, slots := 0, locals := 30 }) (va_Pc [.ref (M 0)] (lt_M D yI yC yO (lt_Md yI yC M i a) sz)) (lt_Qi D (X8_keep i a) (fun u => lt_Md yI yC M u.1 u.2) (va_A (lt_Md yI yC M i a) sz)) 0 0 (va_A (lt_Md yI yC M i a) sz) := by
  refine Met.ofW (cc := cX8_keep) (maxL := 1) (ret := (some .int)) (by decide) rfl ?_
  intro p e s m args below meth c s₁ B0 hml hv
  obtain ⟨rfl, hsz, hP, hK0, hD0⟩ := hv
  have hx := B0.exec
  have hb := B0.bytes
  have hret := B0.returns
  have hts := atoms_spec (ws := wsX8_keep) B0.pre
  have hown : s.vm.findClass RX8 = some m.cls := findClass_of_methodNamed B0.named
  have hlocks := B0.notSynchronized
  have hK := hK0.1
  have hN := hK0.2
  subst hsz
  have hD := hD0.self (sz := s.heap.size)
  generalize hAe : va_A (lt_Md yI yC M i a) s.heap.size = A at hD ⊢
  have hA : ∀ q : Nat, s.heap.size ≤ q → A q := fun q h => by rw [← hAe]; exact Or.inr h
  have hS : va_S A s.heap s.heap [] := va_S.rf
  have hP : va_P D vwCl (lt_Md yI yC M i a) s.heap := hP
  have hD : va_D A (lt_Md yI yC M i a) := hD
  have hl := lv_entry ([.ref (M 0)]) (n := 1) (Nat.le_of_ble_eq_true rfl)
  rw [lg_entry_eq]
  generalize (lg_sl ([.ref (M 0)]) ++ List.replicate (1 - (lg_sl ([.ref (M 0)])).length) Slot.unset).toArray = ls at hl ⊢
  have hl : lv_has ls 1 [(0, .ref (M 0))] := hl
  refine lv_aload_n hx hb dX8_keep_0 rfl (lv_at hl 0 rfl) ?_
  refine va_get (D := D) (ci := 8) (v := .ref (M 1)) (C := RX8) (T := TX8) (N := 13) hx hb hts iw_X8_keep_8 hown hK hP 0 rfl rfl 0 (by decide) (hts (.fieldLink RX8 7 "LeafTurnerModel" "now" "[I") (by decide +kernel)) (fun _ h9 => h9) rfl dX8_keep_1 ?_
  refine lv_iconst (v := 0) hx hb dX8_keep_4 (by decide) ?_
  refine lv_aload_n hx hb dX8_keep_5 rfl (lv_at hl 0 rfl) ?_
  refine va_get (D := D) (ci := 8) (v := .ref (M 4)) (C := RX8) (T := TX8) (N := 13) hx hb hts iw_X8_keep_8 hown hK hP 0 rfl rfl 4 (by decide) (hts (.fieldLink RX8 19 "LeafTurnerModel" "snapshot" "[I") (by decide +kernel)) (fun _ h9 => h9) rfl dX8_keep_6 ?_
  refine lv_iconst (v := 0) hx hb dX8_keep_9 (by decide) ?_
  have ho_10 := hs.1; have hs := hs.2
  have hPc := hP.sub (ws' := lt_Ro yI (M 1) 532 (a 0) ++ lt_Ro yI (M 4) 532 (a 3)) [1, 4] rfl
  have hDc := hD.sub (ws' := lt_Ro yI (M 1) 532 (a 0) ++ lt_Ro yI (M 4) 532 (a 3)) [1, 4] (by decide) rfl
  refine lt_cWv (wc := lt_Ro yI (M 1) 532 (a 0) ++ lt_Ro yI (M 4) 532 (a 3)) (wr := [(M 0, .inr (8, [.ref (M 1), .ref (M 2), .ref (M 3), .int (i 0), .ref (M 4), .int (i 1), .ref (M 5), .int (i 2), .ref (M 6), .ref (M 7), .int (i 3), .ref (M 8), .int (i 4)])), (M 2, .inl (yI, 532, .inl (a 1))), (M 3, .inl (yI, 2128, .inl (a 2))), (M 5, .inl (yC, 60, .inl (a 4))), (M 6, .inl (yI, 80, .inl (a 5))), (M 7, .inl (yI, 60, .inl (a 6))), (M 8, .inl (yI, 93, .inl (a 7)))]) (va_runS (As := [.ref (M 1), .int 0, .ref (M 4), .int 0]) (rest := []) ⟨hx, hb, hml, hown, hts⟩ (c_X8_lays l D yI yC yO (M 1) 532 (M 4) 532 (a 0) (a 3) 0 0 _ ho_10) (va_cwS 4 hts gX8_keep_X8_lays rfl rfl rfl (by decide +kernel) ⟨Nat.le_of_ble_eq_true rfl, Nat.le_of_ble_eq_true rfl⟩) (lt_qS hK0 hPc hDc) rfl rfl hl.1 rfl (lv_room (Nat.le_of_ble_eq_true rfl)) dX8_keep_10 ⟨Nat.zero_le _, Nat.zero_le _⟩) hP hD hS hA [1, 4] [0, 2, 3, 5, 6, 7, 8] rfl rfl (by decide) (by decide) (fun x_10 e_x_10 H locs hP hD hS => ?_)
  have hP := hP.sub (ws' := lt_Md yI yC M i (va_up a 3 x_10)) [0, 7, 1, 2, 8, 3, 4, 5, 6] rfl
  have hD := hD.sub (ws' := lt_Md yI yC M i (va_up a 3 x_10)) [0, 7, 1, 2, 8, 3, 4, 5, 6] (by decide) rfl
  have hs := hs x_10 e_x_10
  refine lv_aload_n hx hb dX8_keep_13 rfl (lv_at hl 0 rfl) ?_
  refine lv_iconst (v := 1) hx hb dX8_keep_14 (by decide) ?_
  refine va_put (D := D) (ci := 8) (v := .int 1) (ty := .boolean) (C := RX8) (T := TX8) (N := 13) hx hb hts iw_X8_keep_8 tyX8 tyX8_ok nmX8 hown hK hP hD hS 0 rfl rfl 5 (by decide) (hts (.fieldLink RX8 132 "LeafTurnerModel" "isKept" "Z") (by decide +kernel)) (fun _ h9 => h9) rfl (by decide +kernel) rfl rfl (Nat.le_of_ble_eq_true rfl) dX8_keep_15 (fun H locs hP hD hS => ?_)
  have hP : va_P D vwCl (lt_Md yI yC M (upd i 1 1) (va_up a 3 x_10)) H := hP
  have hD : va_D A (lt_Md yI yC M (upd i 1 1) (va_up a 3 x_10)) := hD
  refine lv_aload_n hx hb dX8_keep_18 rfl (lv_at hl 0 rfl) ?_
  refine va_get (D := D) (ci := 8) (v := .ref (M 1)) (C := RX8) (T := TX8) (N := 13) hx hb hts iw_X8_keep_8 hown hK hP 0 rfl rfl 0 (by decide) (hts (.fieldLink RX8 7 "LeafTurnerModel" "now" "[I") (by decide +kernel)) (fun _ h9 => h9) rfl dX8_keep_19 ?_
  refine lv_iconst (v := 2) hx hb dX8_keep_22 (by decide) ?_
  refine va_iald hx hb hK hP 1 0 rfl rfl (i := 2) (vp_in_iff.mpr (by decide)) dX8_keep_23 ?_
  refine lt_top (y := ((a 0) 2)) rfl ?_
  exact W.iret (v := ((a 0) 2)) hx hb hret (fun t ht hW => ⟨⟨((a 0) 2), ((upd i 1 1), (va_up a 3 x_10)), rfl, (by subst e_x_10; exact (Eq.symm rfl)), by rw [ht]; exact hP, hD⟩, hS.F ht⟩) hS.2.2 dX8_keep_24

def X8_restore (i : Nat → Int32) (a : Nat → Nat → Int32) : Int32 × ((Nat → Int32) × (Nat → Nat → Int32)) :=
  if (i 1) = 0 then
    ((-5), (i, a))
  else
    let x_15 := X8_records i a
    let x_28 := X8_lays 532 532 (x_15.2 3) (x_15.2 0) 0 0
    ((x_28 2), (x_15.1, (va_up x_15.2 0 x_28)))
def S_X8_restore (i : Nat → Int32) (a : Nat → Nat → Int32) : Prop :=
  ((i 1) = 0 →
    True) ∧
  (¬ ((i 1) = 0) →
    (S_X8_records i a) ∧
    ∀ x_15, x_15 = X8_records i a →
    (S_X8_lays 532 532 (x_15.2 3) (x_15.2 0) 0 0) ∧
    ∀ x_28, x_28 = X8_lays 532 532 (x_15.2 3) (x_15.2 0) 0 0 →
    True)
theorem iw_X8_restore_8 : ∀ w ∈ wsX80, w ∈ wsX8_restore := by decide +kernel
set_option maxHeartbeats 4000000 in
set_option maxRecDepth 100000 in
theorem c_X8_restore (l : Launch) (D : va_G) (yI yC yO : ClassId) (M : Nat → Nat) (i : Nat → Int32) (a : Nat → Nat → Int32) (sz : Nat) (hs : S_X8_restore i a) : Met l yX8_restore wsX8_restore ({ frames := 2, cells := 0, slots := 0, locals := 60 }) (va_Pc [.ref (M 0)] (lt_M D yI yC yO (lt_Md yI yC M i a) sz)) (lt_Qi D (X8_restore i a) (fun u => lt_Md yI yC M u.1 u.2) (va_A (lt_Md yI yC M i a) sz)) 0 0 (va_A (lt_Md yI yC M i a) sz) := by
  refine Met.ofW (cc := cX8_restore) (maxL := 1) (ret := (some .int)) (by decide) rfl ?_
  intro p e s m args below meth c s₁ B0 hml hv
  obtain ⟨rfl, hsz, hP, hK0, hD0⟩ := hv
  have hx := B0.exec
  have hb := B0.bytes
  have hret := B0.returns
  have hts := atoms_spec (ws := wsX8_restore) B0.pre
  have hown : s.vm.findClass RX8 = some m.cls := findClass_of_methodNamed B0.named
  have hlocks := B0.notSynchronized
  have hK := hK0.1
  have hN := hK0.2
  subst hsz
  have hD := hD0.self (sz := s.heap.size)
  generalize hAe : va_A (lt_Md yI yC M i a) s.heap.size = A at hD ⊢
  have hA : ∀ q : Nat, s.heap.size ≤ q → A q := fun q h => by rw [← hAe]; exact Or.inr h
  have hS : va_S A s.heap s.heap [] := va_S.rf
  have hP : va_P D vwCl (lt_Md yI yC M i a) s.heap := hP
  have hD : va_D A (lt_Md yI yC M i a) := hD
  have hl := lv_entry ([.ref (M 0)]) (n := 1) (Nat.le_of_ble_eq_true rfl)
  rw [lg_entry_eq]
  generalize (lg_sl ([.ref (M 0)]) ++ List.replicate (1 - (lg_sl ([.ref (M 0)])).length) Slot.unset).toArray = ls at hl ⊢
  have hl : lv_has ls 1 [(0, .ref (M 0))] := hl
  refine lv_aload_n hx hb dX8_restore_0 rfl (lv_at hl 0 rfl) ?_
  refine va_get (D := D) (ci := 8) (v := .int (i 1)) (C := RX8) (T := TX8) (N := 13) hx hb hts iw_X8_restore_8 hown hK hP 0 rfl rfl 5 (by decide) (hts (.fieldLink RX8 132 "LeafTurnerModel" "isKept" "Z") (by decide +kernel)) (fun _ h9 => h9) rfl dX8_restore_1 ?_
  refine lv_if_ne (tgt := 10) hx hb dX8_restore_4 (by decide) (fun c_4 => ?_) (fun c_4 => ?_)
  · have hs := hs.2 c_4
    refine lv_aload_n hx hb dX8_restore_10 rfl (lv_at hl 0 rfl) ?_
    refine lv_aload_n hx hb dX8_restore_11 rfl (lv_at hl 0 rfl) ?_
    refine va_get (D := D) (ci := 8) (v := .ref (M 1)) (C := RX8) (T := TX8) (N := 13) hx hb hts iw_X8_restore_8 hown hK hP 0 rfl rfl 0 (by decide) (hts (.fieldLink RX8 7 "LeafTurnerModel" "now" "[I") (by decide +kernel)) (fun _ h9 => h9) rfl dX8_restore_12 ?_
    have ho_15 := hs.1; have hs := hs.2
    have hPc := hP.sub (ws' := lt_Md yI yC M i a) [0, 1, 2, 3, 4, 5, 6, 7, 8] rfl
    have hDc := hD.sub (ws' := lt_Md yI yC M i a) [0, 1, 2, 3, 4, 5, 6, 7, 8] (by decide) rfl
    refine lt_cWv (wc := lt_Md yI yC M i a) (wr := []) (va_runV (As := [.ref (M 1)]) (rest := []) ⟨hx, hb, hml, hown, hts⟩ (c_X8_records l D yI yC yO M i a _ ho_15) (cwV 1 hts gX8_restore_X8_records rfl rfl rfl (by decide +kernel) ⟨Nat.le_of_ble_eq_true rfl, Nat.le_of_ble_eq_true rfl⟩) (lt_qV hK0 hPc hDc (va_recv hK hPc (ci := 8) (q0 := 0) rfl rfl)) rfl rfl hl.1 rfl (lv_room (Nat.le_of_ble_eq_true rfl)) dX8_restore_15 ⟨Nat.zero_le _, Nat.zero_le _⟩) hP hD hS hA [0, 1, 2, 3, 4, 5, 6, 7, 8] [] rfl rfl (by decide) (by decide) (fun x_15 e_x_15 H locs hP hD hS => ?_)
    have hP := hP.sub (ws' := lt_Md yI yC M x_15.1 x_15.2) [0, 1, 2, 3, 4, 5, 6, 7, 8] rfl
    have hD := hD.sub (ws' := lt_Md yI yC M x_15.1 x_15.2) [0, 1, 2, 3, 4, 5, 6, 7, 8] (by decide) rfl
    have hs := hs x_15 e_x_15
    refine lv_aload_n hx hb dX8_restore_18 rfl (lv_at hl 0 rfl) ?_
    refine va_get (D := D) (ci := 8) (v := .ref (M 4)) (C := RX8) (T := TX8) (N := 13) hx hb hts iw_X8_restore_8 hown hK hP 0 rfl rfl 4 (by decide) (hts (.fieldLink RX8 19 "LeafTurnerModel" "snapshot" "[I") (by decide +kernel)) (fun _ h9 => h9) rfl dX8_restore_19 ?_
    refine lv_iconst (v := 0) hx hb dX8_restore_22 (by decide) ?_
    refine lv_aload_n hx hb dX8_restore_23 rfl (lv_at hl 0 rfl) ?_
    refine va_get (D := D) (ci := 8) (v := .ref (M 1)) (C := RX8) (T := TX8) (N := 13) hx hb hts iw_X8_restore_8 hown hK hP 0 rfl rfl 0 (by decide) (hts (.fieldLink RX8 7 "LeafTurnerModel" "now" "[I") (by decide +kernel)) (fun _ h9 => h9) rfl dX8_restore_24 ?_
    refine lv_iconst (v := 0) hx hb dX8_restore_27 (by decide) ?_
    have ho_28 := hs.1; have hs := hs.2
    have hPc := hP.sub (ws' := lt_Ro yI (M 4) 532 (x_15.2 3) ++ lt_Ro yI (M 1) 532 (x_15.2 0)) [4, 1] rfl
    have hDc := hD.sub (ws' := lt_Ro yI (M 4) 532 (x_15.2 3) ++ lt_Ro yI (M 1) 532 (x_15.2 0)) [4, 1] (by decide) rfl
    refine lt_cWv (wc := lt_Ro yI (M 4) 532 (x_15.2 3) ++ lt_Ro yI (M 1) 532 (x_15.2 0)) (wr := [(M 0, .inr (8, [.ref (M 1), .ref (M 2), .ref (M 3), .int (x_15.1 0), .ref (M 4), .int (x_15.1 1), .ref (M 5), .int (x_15.1 2), .ref (M 6), .ref (M 7), .int (x_15.1 3), .ref (M 8), .int (x_15.1 4)])), (M 2, .inl (yI, 532, .inl (x_15.2 1))), (M 3, .inl (yI, 2128, .inl (x_15.2 2))), (M 5, .inl (yC, 60, .inl (x_15.2 4))), (M 6, .inl (yI, 80, .inl (x_15.2 5))), (M 7, .inl (yI, 60, .inl (x_15.2 6))), (M 8, .inl (yI, 93, .inl (x_15.2 7)))]) (va_runS (As := [.ref (M 4), .int 0, .ref (M 1), .int 0]) (rest := []) ⟨hx, hb, hml, hown, hts⟩ (c_X8_lays l D yI yC yO (M 4) 532 (M 1) 532 (x_15.2 3) (x_15.2 0) 0 0 _ ho_28) (va_cwS 4 hts gX8_restore_X8_lays rfl rfl rfl (by decide +kernel) ⟨Nat.le_of_ble_eq_true rfl, Nat.le_of_ble_eq_true rfl⟩) (lt_qS hK0 hPc hDc) rfl rfl hl.1 rfl (lv_room (Nat.le_of_ble_eq_true rfl)) dX8_restore_28 ⟨Nat.zero_le _, Nat.zero_le _⟩) hP hD hS hA [4, 1] [0, 2, 3, 5, 6, 7, 8] rfl rfl (by decide) (by decide) (fun x_28 e_x_28 H locs hP hD hS => ?_)
    have hP := hP.sub (ws' := lt_Md yI yC M x_15.1 (va_up x_15.2 0 x_28)) [0, 8, 1, 2, 7, 3, 4, 5, 6] rfl
    have hD := hD.sub (ws' := lt_Md yI yC M x_15.1 (va_up x_15.2 0 x_28)) [0, 8, 1, 2, 7, 3, 4, 5, 6] (by decide) rfl
    have hs := hs x_28 e_x_28
    refine lv_aload_n hx hb dX8_restore_31 rfl (lv_at hl 0 rfl) ?_
    refine va_get (D := D) (ci := 8) (v := .ref (M 1)) (C := RX8) (T := TX8) (N := 13) hx hb hts iw_X8_restore_8 hown hK hP 0 rfl rfl 0 (by decide) (hts (.fieldLink RX8 7 "LeafTurnerModel" "now" "[I") (by decide +kernel)) (fun _ h9 => h9) rfl dX8_restore_32 ?_
    refine lv_iconst (v := 2) hx hb dX8_restore_35 (by decide) ?_
    refine va_iald hx hb hK hP 1 0 rfl rfl (i := 2) (vp_in_iff.mpr (by decide)) dX8_restore_36 ?_
    refine lt_top (y := (x_28 2)) rfl ?_
    exact W.iret (v := (x_28 2)) hx hb hret (fun t ht hW => ⟨⟨(x_28 2), (x_15.1, (va_up x_15.2 0 x_28)), rfl, (by subst e_x_28 e_x_15; exact (Eq.symm (Eq.trans (if_neg c_4) rfl))), by rw [ht]; exact hP, hD⟩, hS.F ht⟩) hS.2.2 dX8_restore_37
  · have hs := hs.1 c_4
    refine lv_bipush (v := (-5)) hx hb dX8_restore_7 (by decide) ?_
    exact W.iret (v := (-5)) hx hb hret (fun t ht hW => ⟨⟨(-5), (i, a), rfl, (Eq.symm (Eq.trans (if_pos c_4) rfl)), by rw [ht]; exact hP, hD⟩, hS.F ht⟩) hS.2.2 dX8_restore_9

def X8_leaf (i : Nat → Int32) (a : Nat → Nat → Int32) (p0 : Int32) (p1 : Int32) : Int32 :=
  let r_10 := X8_in p0 0 (((a 0) 0) - 1)
  if r_10 = 0 then
    (-1)
  else
    if p1 = 0 then
      ((a 0) (12 + p0).toNatClampNeg)
    else
      if p1 = 1 then
        ((a 0) (42 + p0).toNatClampNeg)
      else
        if p1 = 2 then
          if ((a 0) 1) ≤ p0 then
            0
          else
            1
        else
          (-2)
def S_X8_leaf (i : Nat → Int32) (a : Nat → Nat → Int32) (p0 : Int32) (p1 : Int32) : Prop :=
  ∀ r_10, r_10 = X8_in p0 0 (((a 0) 0) - 1) →
  (r_10 = 0 →
    True) ∧
  (¬ (r_10 = 0) →
    (p1 = 0 →
      (vp_in (12 + p0) 532) ∧
      True) ∧
    (¬ (p1 = 0) →
      (p1 = 1 →
        (vp_in (42 + p0) 532) ∧
        True) ∧
      (¬ (p1 = 1) →
        (p1 = 2 →
          (((a 0) 1) ≤ p0 →
            True) ∧
          (¬ (((a 0) 1) ≤ p0) →
            True)) ∧
        (¬ (p1 = 2) →
          True))))
theorem iw_X8_leaf_8 : ∀ w ∈ wsX80, w ∈ wsX8_leaf := by decide +kernel
set_option maxHeartbeats 4000000 in
set_option maxRecDepth 100000 in
theorem c_X8_leaf (l : Launch) (D : va_G) (yI yC yO : ClassId) (M : Nat → Nat) (i : Nat → Int32) (a : Nat → Nat → Int32) (p0 : Int32) (p1 : Int32) (hs : S_X8_leaf i a p0 p1) : Met l yX8_leaf wsX8_leaf ({ frames := 1, cells := 0, slots := 0, locals := 30 }) (va_Pc [.ref (M 0), .int p0, .int p1] (lt_R D yI yC yO (lt_Md yI yC M i a))) (lt_Si (X8_leaf i a p0 p1)) 0 0 (fun _ => False) := by
  refine Met.ofW (cc := cX8_leaf) (maxL := 3) (ret := (some .int)) (by decide) rfl ?_
  intro p e s m args below meth c s₁ B0 hml hv
  obtain ⟨rfl, hP, hK0⟩ := hv
  have hx := B0.exec
  have hb := B0.bytes
  have hret := B0.returns
  have hts := atoms_spec (ws := wsX8_leaf) B0.pre
  have hown : s.vm.findClass RX8 = some m.cls := findClass_of_methodNamed B0.named
  have hlocks := B0.notSynchronized
  have hK := hK0.1
  have hN := hK0.2
  have hP : va_P D vwCl (lt_Md yI yC M i a) s.heap := hP
  have hl := lv_entry ([.ref (M 0), .int p0, .int p1]) (n := 3) (Nat.le_of_ble_eq_true rfl)
  rw [lg_entry_eq]
  generalize (lg_sl ([.ref (M 0), .int p0, .int p1]) ++ List.replicate (3 - (lg_sl ([.ref (M 0), .int p0, .int p1])).length) Slot.unset).toArray = ls at hl ⊢
  have hl : lv_has ls 3 [(0, .ref (M 0)), (1, .int p0), (2, .int p1)] := hl
  refine lv_iload_n hx hb dX8_leaf_0 rfl (lv_at hl 1 rfl) ?_
  refine lv_iconst (v := 0) hx hb dX8_leaf_1 (by decide) ?_
  refine lv_aload_n hx hb dX8_leaf_2 rfl (lv_at hl 0 rfl) ?_
  refine va_get (D := D) (ci := 8) (v := .ref (M 1)) (C := RX8) (T := TX8) (N := 13) hx hb hts iw_X8_leaf_8 hown hK hP 0 rfl rfl 0 (by decide) (hts (.fieldLink RX8 7 "LeafTurnerModel" "now" "[I") (by decide +kernel)) (fun _ h9 => h9) rfl dX8_leaf_3 ?_
  refine lv_iconst (v := 0) hx hb dX8_leaf_6 (by decide) ?_
  refine va_iald hx hb hK hP 1 0 rfl rfl (i := 0) (vp_in_iff.mpr (by decide)) dX8_leaf_7 ?_
  refine lt_top (y := ((a 0) 0)) rfl ?_
  refine lv_iconst (v := 1) hx hb dX8_leaf_8 (by decide) ?_
  refine lv_isub hx hb dX8_leaf_9 ?_
  have hPc := hP.sub (ws' := ([] : va_W)) [] rfl
  refine lt_cR (va_runS (As := [.int p0, .int 0, .int (((a 0) 0) - 1)]) (rest := []) ⟨hx, hb, hml, hown, hts⟩ (c_X8_in l D yI yC yO p0 0 (((a 0) 0) - 1) ) (va_cwS 3 hts gX8_leaf_X8_in rfl rfl rfl (by decide +kernel) ⟨Nat.le_of_ble_eq_true rfl, Nat.le_of_ble_eq_true rfl⟩) (lt_pS hK0 hPc) rfl rfl hl.1 rfl (lv_room (Nat.le_of_ble_eq_true rfl)) dX8_leaf_10 ⟨Nat.zero_le _, Nat.zero_le _⟩) (fun r_10 e_r_10 => ?_)
  have hs := hs r_10 e_r_10
  refine lv_if_ne (tgt := 18) hx hb dX8_leaf_13 (by decide) (fun c_13 => ?_) (fun c_13 => ?_)
  · have hs := hs.2 c_13
    refine lv_iload_n hx hb dX8_leaf_18 rfl (lv_at hl 2 rfl) ?_
    rcases Decidable.em (p1 = 0) with h_19_0 | h_19_0
    · have hs := hs.1 h_19_0
      refine lv_tableIn (off := 25) (tgt := 44) hx hb dX8_leaf_19 (by rw [h_19_0]; decide) (by rw [h_19_0]; decide) (by rw [h_19_0]; rfl) (by decide) ?_
      refine lv_aload_n hx hb dX8_leaf_44 rfl (lv_at hl 0 rfl) ?_
      refine va_get (D := D) (ci := 8) (v := .ref (M 1)) (C := RX8) (T := TX8) (N := 13) hx hb hts iw_X8_leaf_8 hown hK hP 0 rfl rfl 0 (by decide) (hts (.fieldLink RX8 7 "LeafTurnerModel" "now" "[I") (by decide +kernel)) (fun _ h9 => h9) rfl dX8_leaf_45 ?_
      refine lv_bipush (v := 12) hx hb dX8_leaf_48 (by decide) ?_
      refine lv_iload_n hx hb dX8_leaf_50 rfl (lv_at hl 1 rfl) ?_
      refine lv_iadd hx hb dX8_leaf_51 ?_
      have ho_52 := hs.1; have hs := hs.2
      refine va_iald hx hb hK hP 1 0 rfl rfl (i := (12 + p0)) (ho_52) dX8_leaf_52 ?_
      exact W.iret (v := ((a 0) (12 + p0).toNatClampNeg)) hx hb hret (fun t ht hW => ⟨((a 0) (12 + p0).toNatClampNeg), rfl, (by subst e_r_10; exact (Eq.symm (Eq.trans (if_neg c_13) (Eq.trans (if_pos h_19_0) rfl)))), ht⟩) (fun _ h => absurd h List.not_mem_nil) dX8_leaf_53
    · have hs := hs.2 h_19_0
      rcases Decidable.em (p1 = 1) with h_19_1 | h_19_1
      · have hs := hs.1 h_19_1
        refine lv_tableIn (off := 35) (tgt := 54) hx hb dX8_leaf_19 (by rw [h_19_1]; decide) (by rw [h_19_1]; decide) (by rw [h_19_1]; rfl) (by decide) ?_
        refine lv_aload_n hx hb dX8_leaf_54 rfl (lv_at hl 0 rfl) ?_
        refine va_get (D := D) (ci := 8) (v := .ref (M 1)) (C := RX8) (T := TX8) (N := 13) hx hb hts iw_X8_leaf_8 hown hK hP 0 rfl rfl 0 (by decide) (hts (.fieldLink RX8 7 "LeafTurnerModel" "now" "[I") (by decide +kernel)) (fun _ h9 => h9) rfl dX8_leaf_55 ?_
        refine lv_bipush (v := 42) hx hb dX8_leaf_58 (by decide) ?_
        refine lv_iload_n hx hb dX8_leaf_60 rfl (lv_at hl 1 rfl) ?_
        refine lv_iadd hx hb dX8_leaf_61 ?_
        have ho_62 := hs.1; have hs := hs.2
        refine va_iald hx hb hK hP 1 0 rfl rfl (i := (42 + p0)) (ho_62) dX8_leaf_62 ?_
        exact W.iret (v := ((a 0) (42 + p0).toNatClampNeg)) hx hb hret (fun t ht hW => ⟨((a 0) (42 + p0).toNatClampNeg), rfl, (by subst e_r_10; exact (Eq.symm (Eq.trans (if_neg c_13) (Eq.trans (if_neg h_19_0) (Eq.trans (if_pos h_19_1) rfl))))), ht⟩) (fun _ h => absurd h List.not_mem_nil) dX8_leaf_63
      · have hs := hs.2 h_19_1
        rcases Decidable.em (p1 = 2) with h_19_2 | h_19_2
        · have hs := hs.1 h_19_2
          refine lv_tableIn (off := 45) (tgt := 64) hx hb dX8_leaf_19 (by rw [h_19_2]; decide) (by rw [h_19_2]; decide) (by rw [h_19_2]; rfl) (by decide) ?_
          refine lv_iload_n hx hb dX8_leaf_64 rfl (lv_at hl 1 rfl) ?_
          refine lv_aload_n hx hb dX8_leaf_65 rfl (lv_at hl 0 rfl) ?_
          refine va_get (D := D) (ci := 8) (v := .ref (M 1)) (C := RX8) (T := TX8) (N := 13) hx hb hts iw_X8_leaf_8 hown hK hP 0 rfl rfl 0 (by decide) (hts (.fieldLink RX8 7 "LeafTurnerModel" "now" "[I") (by decide +kernel)) (fun _ h9 => h9) rfl dX8_leaf_66 ?_
          refine lv_iconst (v := 1) hx hb dX8_leaf_69 (by decide) ?_
          refine va_iald hx hb hK hP 1 0 rfl rfl (i := 1) (vp_in_iff.mpr (by decide)) dX8_leaf_70 ?_
          refine lt_top (y := ((a 0) 1)) rfl ?_
          refine lv_icmp_ge (tgt := 78) hx hb dX8_leaf_71 (by decide) (fun c_71 => ?_) (fun c_71 => ?_)
          · have hs := hs.1 c_71
            refine lv_iconst (v := 0) hx hb dX8_leaf_78 (by decide) ?_
            exact W.iret (v := 0) hx hb hret (fun t ht hW => ⟨0, rfl, (by subst e_r_10; exact (Eq.symm (Eq.trans (if_neg c_13) (Eq.trans (if_neg h_19_0) (Eq.trans (if_neg h_19_1) (Eq.trans (if_pos h_19_2) (Eq.trans (if_pos c_71) rfl))))))), ht⟩) (fun _ h => absurd h List.not_mem_nil) dX8_leaf_79
          · have hs := hs.2 c_71
            refine lv_iconst (v := 1) hx hb dX8_leaf_74 (by decide) ?_
            refine lv_goto (tgt := 79) hx hb dX8_leaf_75 (by decide) ?_
            exact W.iret (v := 1) hx hb hret (fun t ht hW => ⟨1, rfl, (by subst e_r_10; exact (Eq.symm (Eq.trans (if_neg c_13) (Eq.trans (if_neg h_19_0) (Eq.trans (if_neg h_19_1) (Eq.trans (if_pos h_19_2) (Eq.trans (if_neg c_71) rfl))))))), ht⟩) (fun _ h => absurd h List.not_mem_nil) dX8_leaf_79
        · have hs := hs.2 h_19_2
          refine lv_tableOut (tgt := 80) hx hb dX8_leaf_19 (lt_sw0_2 h_19_0 h_19_1 h_19_2) (by decide) ?_
          refine lv_bipush (v := (-2)) hx hb dX8_leaf_80 (by decide) ?_
          exact W.iret (v := (-2)) hx hb hret (fun t ht hW => ⟨(-2), rfl, (by subst e_r_10; exact (Eq.symm (Eq.trans (if_neg c_13) (Eq.trans (if_neg h_19_0) (Eq.trans (if_neg h_19_1) (Eq.trans (if_neg h_19_2) rfl)))))), ht⟩) (fun _ h => absurd h List.not_mem_nil) dX8_leaf_82
  · have hs := hs.1 c_13
    refine lv_iconst (v := (-1)) hx hb dX8_leaf_16 (by decide) ?_
    exact W.iret (v := (-1)) hx hb hret (fun t ht hW => ⟨(-1), rfl, (by subst e_r_10; exact (Eq.symm (Eq.trans (if_pos c_13) rfl))), ht⟩) (fun _ h => absurd h List.not_mem_nil) dX8_leaf_17

def X8_page (i : Nat → Int32) (a : Nat → Nat → Int32) (p0 : Int32) (p1 : Int32) : Int32 × ((Nat → Nat → Int32)) :=
  let r_2 := X8_isPage i a p0
  if r_2 = 0 then
    ((-1), (a))
  else
    let x_11 := X8_guessesAll i a
    if p1 = 0 then
      (((x_11 0) (72 + p0).toNatClampNeg), (x_11))
    else
      if p1 = 1 then
        (((x_11 6) p0.toNatClampNeg), (x_11))
      else
        if p1 = 2 then
          let r_67 := X8_shownBy i x_11 p0
          (r_67, (x_11))
        else
          if p1 = 3 then
            let r_73 := X8_isDoubtful i x_11 p0
            if r_73 = 0 then
              (0, (x_11))
            else
              (1, (x_11))
          else
            if p1 = 4 then
              if (p0 - p0 / 2 * 2) = 0 then
                let r_113 := X8_isGood (x_11 0) (((x_11 0) 0) - (p0 / 2))
                if r_113 = 0 then
                  (0, (x_11))
                else
                  (1, (x_11))
              else
                let r_113 := X8_isGood (x_11 0) ((p0 / 2) + 1)
                if r_113 = 0 then
                  (0, (x_11))
                else
                  (1, (x_11))
            else
              ((-2), (x_11))
def S_X8_page (i : Nat → Int32) (a : Nat → Nat → Int32) (p0 : Int32) (p1 : Int32) : Prop :=
  (S_X8_isPage i a p0) ∧
  ∀ r_2, r_2 = X8_isPage i a p0 →
  (r_2 = 0 →
    True) ∧
  (¬ (r_2 = 0) →
    (S_X8_guessesAll i a) ∧
    ∀ x_11, x_11 = X8_guessesAll i a →
    (p1 = 0 →
      (vp_in (72 + p0) 532) ∧
      True) ∧
    (¬ (p1 = 0) →
      (p1 = 1 →
        (vp_in p0 60) ∧
        True) ∧
      (¬ (p1 = 1) →
        (p1 = 2 →
          (S_X8_shownBy i x_11 p0) ∧
          ∀ r_67, r_67 = X8_shownBy i x_11 p0 →
          True) ∧
        (¬ (p1 = 2) →
          (p1 = 3 →
            (S_X8_isDoubtful i x_11 p0) ∧
            ∀ r_73, r_73 = X8_isDoubtful i x_11 p0 →
            (r_73 = 0 →
              True) ∧
            (¬ (r_73 = 0) →
              True)) ∧
          (¬ (p1 = 3) →
            (p1 = 4 →
              ((p0 - p0 / 2 * 2) = 0 →
                (S_X8_isGood (x_11 0) (((x_11 0) 0) - (p0 / 2))) ∧
                ∀ r_113, r_113 = X8_isGood (x_11 0) (((x_11 0) 0) - (p0 / 2)) →
                (r_113 = 0 →
                  True) ∧
                (¬ (r_113 = 0) →
                  True)) ∧
              (¬ ((p0 - p0 / 2 * 2) = 0) →
                (S_X8_isGood (x_11 0) ((p0 / 2) + 1)) ∧
                ∀ r_113, r_113 = X8_isGood (x_11 0) ((p0 / 2) + 1) →
                (r_113 = 0 →
                  True) ∧
                (¬ (r_113 = 0) →
                  True))) ∧
            (¬ (p1 = 4) →
              True))))))
theorem iw_X8_page_8 : ∀ w ∈ wsX80, w ∈ wsX8_page := by decide +kernel
set_option maxHeartbeats 4000000 in
set_option maxRecDepth 100000 in
theorem c_X8_page (l : Launch) (D : va_G) (yI yC yO : ClassId) (M : Nat → Nat) (i : Nat → Int32) (a : Nat → Nat → Int32) (p0 : Int32) (p1 : Int32) (sz : Nat) (hs : S_X8_page i a p0 p1) : Met l yX8_page wsX8_page ({ frames := 4, cells := 0, slots := 0, locals := 120 }) (va_Pc [.ref (M 0), .int p0, .int p1] (lt_M D yI yC yO (lt_Md yI yC M i a) sz)) (lt_Qi D (X8_page i a p0 p1) (fun u => lt_Md yI yC M i u) (va_A (lt_Md yI yC M i a) sz)) 0 0 (va_A (lt_Md yI yC M i a) sz) := by
  refine Met.ofW (cc := cX8_page) (maxL := 3) (ret := (some .int)) (by decide) rfl ?_
  intro p e s m args below meth c s₁ B0 hml hv
  obtain ⟨rfl, hsz, hP, hK0, hD0⟩ := hv
  have hx := B0.exec
  have hb := B0.bytes
  have hret := B0.returns
  have hts := atoms_spec (ws := wsX8_page) B0.pre
  have hown : s.vm.findClass RX8 = some m.cls := findClass_of_methodNamed B0.named
  have hlocks := B0.notSynchronized
  have hK := hK0.1
  have hN := hK0.2
  subst hsz
  have hD := hD0.self (sz := s.heap.size)
  generalize hAe : va_A (lt_Md yI yC M i a) s.heap.size = A at hD ⊢
  have hA : ∀ q : Nat, s.heap.size ≤ q → A q := fun q h => by rw [← hAe]; exact Or.inr h
  have hS : va_S A s.heap s.heap [] := va_S.rf
  have hP : va_P D vwCl (lt_Md yI yC M i a) s.heap := hP
  have hD : va_D A (lt_Md yI yC M i a) := hD
  have hl := lv_entry ([.ref (M 0), .int p0, .int p1]) (n := 3) (Nat.le_of_ble_eq_true rfl)
  rw [lg_entry_eq]
  generalize (lg_sl ([.ref (M 0), .int p0, .int p1]) ++ List.replicate (3 - (lg_sl ([.ref (M 0), .int p0, .int p1])).length) Slot.unset).toArray = ls at hl ⊢
  have hl : lv_has ls 3 [(0, .ref (M 0)), (1, .int p0), (2, .int p1)] := hl
  refine lv_aload_n hx hb dX8_page_0 rfl (lv_at hl 0 rfl) ?_
  refine lv_iload_n hx hb dX8_page_1 rfl (lv_at hl 1 rfl) ?_
  have ho_2 := hs.1; have hs := hs.2
  have hPc := hP.sub (ws' := lt_Md yI yC M i a) [0, 1, 2, 3, 4, 5, 6, 7, 8] rfl
  refine lt_cR (va_runV (As := [.int p0]) (rest := []) ⟨hx, hb, hml, hown, hts⟩ (c_X8_isPage l D yI yC yO M i a p0 ho_2) (cwV 1 hts gX8_page_X8_isPage rfl rfl rfl (by decide +kernel) ⟨Nat.le_of_ble_eq_true rfl, Nat.le_of_ble_eq_true rfl⟩) (lt_pV hK0 hPc (va_recv hK hPc (ci := 8) (q0 := 0) rfl rfl)) rfl rfl hl.1 rfl (lv_room (Nat.le_of_ble_eq_true rfl)) dX8_page_2 ⟨Nat.zero_le _, Nat.zero_le _⟩) (fun r_2 e_r_2 => ?_)
  have hs := hs r_2 e_r_2
  refine lv_if_ne (tgt := 10) hx hb dX8_page_5 (by decide) (fun c_5 => ?_) (fun c_5 => ?_)
  · have hs := hs.2 c_5
    refine lv_aload_n hx hb dX8_page_10 rfl (lv_at hl 0 rfl) ?_
    have ho_11 := hs.1; have hs := hs.2
    have hPc := hP.sub (ws' := lt_Md yI yC M i a) [0, 1, 2, 3, 4, 5, 6, 7, 8] rfl
    have hDc := hD.sub (ws' := lt_Md yI yC M i a) [0, 1, 2, 3, 4, 5, 6, 7, 8] (by decide) rfl
    refine lt_cWv (wc := lt_Md yI yC M i a) (wr := []) (va_runV (As := []) (rest := []) ⟨hx, hb, hml, hown, hts⟩ (c_X8_guessesAll l D yI yC yO M i a _ ho_11) (cwV 0 hts gX8_page_X8_guessesAll rfl rfl rfl (by decide +kernel) ⟨Nat.le_of_ble_eq_true rfl, Nat.le_of_ble_eq_true rfl⟩) (lt_qV hK0 hPc hDc (va_recv hK hPc (ci := 8) (q0 := 0) rfl rfl)) rfl rfl hl.1 rfl (lv_room (Nat.le_of_ble_eq_true rfl)) dX8_page_11 ⟨Nat.zero_le _, Nat.zero_le _⟩) hP hD hS hA [0, 1, 2, 3, 4, 5, 6, 7, 8] [] rfl rfl (by decide) (by decide) (fun x_11 e_x_11 H locs hP hD hS => ?_)
    have hP := hP.sub (ws' := lt_Md yI yC M i x_11) [0, 1, 2, 3, 4, 5, 6, 7, 8] rfl
    have hD := hD.sub (ws' := lt_Md yI yC M i x_11) [0, 1, 2, 3, 4, 5, 6, 7, 8] (by decide) rfl
    have hs := hs x_11 e_x_11
    refine lv_iload_n hx hb dX8_page_14 rfl (lv_at hl 2 rfl) ?_
    rcases Decidable.em (p1 = 0) with h_15_0 | h_15_0
    · have hs := hs.1 h_15_0
      refine lv_tableIn (off := 33) (tgt := 48) hx hb dX8_page_15 (by rw [h_15_0]; decide) (by rw [h_15_0]; decide) (by rw [h_15_0]; rfl) (by decide) ?_
      refine lv_aload_n hx hb dX8_page_48 rfl (lv_at hl 0 rfl) ?_
      refine va_get (D := D) (ci := 8) (v := .ref (M 1)) (C := RX8) (T := TX8) (N := 13) hx hb hts iw_X8_page_8 hown hK hP 0 rfl rfl 0 (by decide) (hts (.fieldLink RX8 7 "LeafTurnerModel" "now" "[I") (by decide +kernel)) (fun _ h9 => h9) rfl dX8_page_49 ?_
      refine lv_bipush (v := 72) hx hb dX8_page_52 (by decide) ?_
      refine lv_iload_n hx hb dX8_page_54 rfl (lv_at hl 1 rfl) ?_
      refine lv_iadd hx hb dX8_page_55 ?_
      have ho_56 := hs.1; have hs := hs.2
      refine va_iald hx hb hK hP 1 0 rfl rfl (i := (72 + p0)) (ho_56) dX8_page_56 ?_
      exact W.iret (v := ((x_11 0) (72 + p0).toNatClampNeg)) hx hb hret (fun t ht hW => ⟨⟨((x_11 0) (72 + p0).toNatClampNeg), (x_11), rfl, (by subst e_x_11 e_r_2; exact (Eq.symm (Eq.trans (if_neg c_5) (Eq.trans (if_pos h_15_0) rfl)))), by rw [ht]; exact hP, hD⟩, hS.F ht⟩) hS.2.2 dX8_page_57
    · have hs := hs.2 h_15_0
      rcases Decidable.em (p1 = 1) with h_15_1 | h_15_1
      · have hs := hs.1 h_15_1
        refine lv_tableIn (off := 43) (tgt := 58) hx hb dX8_page_15 (by rw [h_15_1]; decide) (by rw [h_15_1]; decide) (by rw [h_15_1]; rfl) (by decide) ?_
        refine lv_aload_n hx hb dX8_page_58 rfl (lv_at hl 0 rfl) ?_
        refine va_get (D := D) (ci := 8) (v := .ref (M 7)) (C := RX8) (T := TX8) (N := 13) hx hb hts iw_X8_page_8 hown hK hP 0 rfl rfl 9 (by decide) (hts (.fieldLink RX8 29 "LeafTurnerModel" "chosen" "[I") (by decide +kernel)) (fun _ h9 => h9) rfl dX8_page_59 ?_
        refine lv_iload_n hx hb dX8_page_62 rfl (lv_at hl 1 rfl) ?_
        have ho_63 := hs.1; have hs := hs.2
        refine va_iald hx hb hK hP 7 0 rfl rfl (i := p0) (ho_63) dX8_page_63 ?_
        exact W.iret (v := ((x_11 6) p0.toNatClampNeg)) hx hb hret (fun t ht hW => ⟨⟨((x_11 6) p0.toNatClampNeg), (x_11), rfl, (by subst e_x_11 e_r_2; exact (Eq.symm (Eq.trans (if_neg c_5) (Eq.trans (if_neg h_15_0) (Eq.trans (if_pos h_15_1) rfl))))), by rw [ht]; exact hP, hD⟩, hS.F ht⟩) hS.2.2 dX8_page_64
      · have hs := hs.2 h_15_1
        rcases Decidable.em (p1 = 2) with h_15_2 | h_15_2
        · have hs := hs.1 h_15_2
          refine lv_tableIn (off := 50) (tgt := 65) hx hb dX8_page_15 (by rw [h_15_2]; decide) (by rw [h_15_2]; decide) (by rw [h_15_2]; rfl) (by decide) ?_
          refine lv_aload_n hx hb dX8_page_65 rfl (lv_at hl 0 rfl) ?_
          refine lv_iload_n hx hb dX8_page_66 rfl (lv_at hl 1 rfl) ?_
          have ho_67 := hs.1; have hs := hs.2
          have hPc := hP.sub (ws' := lt_Md yI yC M i x_11) [0, 1, 2, 3, 4, 5, 6, 7, 8] rfl
          refine lt_cR (va_runV (As := [.int p0]) (rest := []) ⟨hx, hb, hml, hown, hts⟩ (c_X8_shownBy l D yI yC yO M i x_11 p0 ho_67) (cwV 1 hts gX8_page_X8_shownBy rfl rfl rfl (by decide +kernel) ⟨Nat.le_of_ble_eq_true rfl, Nat.le_of_ble_eq_true rfl⟩) (lt_pV hK0 hPc (va_recv hK hPc (ci := 8) (q0 := 0) rfl rfl)) rfl rfl hl.1 rfl (lv_room (Nat.le_of_ble_eq_true rfl)) dX8_page_67 ⟨Nat.zero_le _, Nat.zero_le _⟩) (fun r_67 e_r_67 => ?_)
          have hs := hs r_67 e_r_67
          exact W.iret (v := r_67) hx hb hret (fun t ht hW => ⟨⟨r_67, (x_11), rfl, (by subst e_r_67 e_x_11 e_r_2; exact (Eq.symm (Eq.trans (if_neg c_5) (Eq.trans (if_neg h_15_0) (Eq.trans (if_neg h_15_1) (Eq.trans (if_pos h_15_2) rfl)))))), by rw [ht]; exact hP, hD⟩, hS.F ht⟩) hS.2.2 dX8_page_70
        · have hs := hs.2 h_15_2
          rcases Decidable.em (p1 = 3) with h_15_3 | h_15_3
          · have hs := hs.1 h_15_3
            refine lv_tableIn (off := 56) (tgt := 71) hx hb dX8_page_15 (by rw [h_15_3]; decide) (by rw [h_15_3]; decide) (by rw [h_15_3]; rfl) (by decide) ?_
            refine lv_aload_n hx hb dX8_page_71 rfl (lv_at hl 0 rfl) ?_
            refine lv_iload_n hx hb dX8_page_72 rfl (lv_at hl 1 rfl) ?_
            have ho_73 := hs.1; have hs := hs.2
            have hPc := hP.sub (ws' := lt_Md yI yC M i x_11) [0, 1, 2, 3, 4, 5, 6, 7, 8] rfl
            refine lt_cR (va_runV (As := [.int p0]) (rest := []) ⟨hx, hb, hml, hown, hts⟩ (c_X8_isDoubtful l D yI yC yO M i x_11 p0 ho_73) (cwV 1 hts gX8_page_X8_isDoubtful rfl rfl rfl (by decide +kernel) ⟨Nat.le_of_ble_eq_true rfl, Nat.le_of_ble_eq_true rfl⟩) (lt_pV hK0 hPc (va_recv hK hPc (ci := 8) (q0 := 0) rfl rfl)) rfl rfl hl.1 rfl (lv_room (Nat.le_of_ble_eq_true rfl)) dX8_page_73 ⟨Nat.zero_le _, Nat.zero_le _⟩) (fun r_73 e_r_73 => ?_)
            have hs := hs r_73 e_r_73
            refine lv_if_eq (tgt := 83) hx hb dX8_page_76 (by decide) (fun c_76 => ?_) (fun c_76 => ?_)
            · have hs := hs.1 c_76
              refine lv_iconst (v := 0) hx hb dX8_page_83 (by decide) ?_
              exact W.iret (v := 0) hx hb hret (fun t ht hW => ⟨⟨0, (x_11), rfl, (by subst e_r_73 e_x_11 e_r_2; exact (Eq.symm (Eq.trans (if_neg c_5) (Eq.trans (if_neg h_15_0) (Eq.trans (if_neg h_15_1) (Eq.trans (if_neg h_15_2) (Eq.trans (if_pos h_15_3) (Eq.trans (if_pos c_76) rfl)))))))), by rw [ht]; exact hP, hD⟩, hS.F ht⟩) hS.2.2 dX8_page_84
            · have hs := hs.2 c_76
              refine lv_iconst (v := 1) hx hb dX8_page_79 (by decide) ?_
              refine lv_goto (tgt := 84) hx hb dX8_page_80 (by decide) ?_
              exact W.iret (v := 1) hx hb hret (fun t ht hW => ⟨⟨1, (x_11), rfl, (by subst e_r_73 e_x_11 e_r_2; exact (Eq.symm (Eq.trans (if_neg c_5) (Eq.trans (if_neg h_15_0) (Eq.trans (if_neg h_15_1) (Eq.trans (if_neg h_15_2) (Eq.trans (if_pos h_15_3) (Eq.trans (if_neg c_76) rfl)))))))), by rw [ht]; exact hP, hD⟩, hS.F ht⟩) hS.2.2 dX8_page_84
          · have hs := hs.2 h_15_3
            rcases Decidable.em (p1 = 4) with h_15_4 | h_15_4
            · have hs := hs.1 h_15_4
              refine lv_tableIn (off := 70) (tgt := 85) hx hb dX8_page_15 (by rw [h_15_4]; decide) (by rw [h_15_4]; decide) (by rw [h_15_4]; rfl) (by decide) ?_
              refine lv_aload_n hx hb dX8_page_85 rfl (lv_at hl 0 rfl) ?_
              refine va_get (D := D) (ci := 8) (v := .ref (M 1)) (C := RX8) (T := TX8) (N := 13) hx hb hts iw_X8_page_8 hown hK hP 0 rfl rfl 0 (by decide) (hts (.fieldLink RX8 7 "LeafTurnerModel" "now" "[I") (by decide +kernel)) (fun _ h9 => h9) rfl dX8_page_86 ?_
              refine lv_iload_n hx hb dX8_page_89 rfl (lv_at hl 1 rfl) ?_
              refine lv_iconst (v := 2) hx hb dX8_page_90 (by decide) ?_
              refine lv_irem hx hb dX8_page_91 (by decide) ?_
              refine lv_if_ne (tgt := 108) hx hb dX8_page_92 (by decide) (fun c_92 => ?_) (fun c_92 => ?_)
              · have hs := hs.2 c_92
                refine lv_iload_n hx hb dX8_page_108 rfl (lv_at hl 1 rfl) ?_
                refine lv_iconst (v := 2) hx hb dX8_page_109 (by decide) ?_
                refine lv_idiv hx hb dX8_page_110 (by decide) ?_
                refine lv_iconst (v := 1) hx hb dX8_page_111 (by decide) ?_
                refine lv_iadd hx hb dX8_page_112 ?_
                have ho_113 := hs.1; have hs := hs.2
                have hPc := hP.sub (ws' := lt_Ro yI (M 1) 532 (x_11 0)) [1] rfl
                refine lt_cR (va_runS (As := [.ref (M 1), .int ((p0 / 2) + 1)]) (rest := []) ⟨hx, hb, hml, hown, hts⟩ (c_X8_isGood l D yI yC yO (M 1) (x_11 0) ((p0 / 2) + 1) ho_113) (va_cwS 2 hts gX8_page_X8_isGood rfl rfl rfl (by decide +kernel) ⟨Nat.le_of_ble_eq_true rfl, Nat.le_of_ble_eq_true rfl⟩) (lt_pS hK0 hPc) rfl rfl hl.1 rfl (lv_room (Nat.le_of_ble_eq_true rfl)) dX8_page_113 ⟨Nat.zero_le _, Nat.zero_le _⟩) (fun r_113 e_r_113 => ?_)
                have hs := hs r_113 e_r_113
                refine lv_if_eq (tgt := 123) hx hb dX8_page_116 (by decide) (fun c_116 => ?_) (fun c_116 => ?_)
                · have hs := hs.1 c_116
                  refine lv_iconst (v := 0) hx hb dX8_page_123 (by decide) ?_
                  exact W.iret (v := 0) hx hb hret (fun t ht hW => ⟨⟨0, (x_11), rfl, (by subst e_r_113 e_x_11 e_r_2; exact (Eq.symm (Eq.trans (if_neg c_5) (Eq.trans (if_neg h_15_0) (Eq.trans (if_neg h_15_1) (Eq.trans (if_neg h_15_2) (Eq.trans (if_neg h_15_3) (Eq.trans (if_pos h_15_4) (Eq.trans (if_neg c_92) (Eq.trans (if_pos c_116) rfl)))))))))), by rw [ht]; exact hP, hD⟩, hS.F ht⟩) hS.2.2 dX8_page_124
                · have hs := hs.2 c_116
                  refine lv_iconst (v := 1) hx hb dX8_page_119 (by decide) ?_
                  refine lv_goto (tgt := 124) hx hb dX8_page_120 (by decide) ?_
                  exact W.iret (v := 1) hx hb hret (fun t ht hW => ⟨⟨1, (x_11), rfl, (by subst e_r_113 e_x_11 e_r_2; exact (Eq.symm (Eq.trans (if_neg c_5) (Eq.trans (if_neg h_15_0) (Eq.trans (if_neg h_15_1) (Eq.trans (if_neg h_15_2) (Eq.trans (if_neg h_15_3) (Eq.trans (if_pos h_15_4) (Eq.trans (if_neg c_92) (Eq.trans (if_neg c_116) rfl)))))))))), by rw [ht]; exact hP, hD⟩, hS.F ht⟩) hS.2.2 dX8_page_124
              · have hs := hs.1 c_92
                refine lv_aload_n hx hb dX8_page_95 rfl (lv_at hl 0 rfl) ?_
                refine va_get (D := D) (ci := 8) (v := .ref (M 1)) (C := RX8) (T := TX8) (N := 13) hx hb hts iw_X8_page_8 hown hK hP 0 rfl rfl 0 (by decide) (hts (.fieldLink RX8 7 "LeafTurnerModel" "now" "[I") (by decide +kernel)) (fun _ h9 => h9) rfl dX8_page_96 ?_
                refine lv_iconst (v := 0) hx hb dX8_page_99 (by decide) ?_
                refine va_iald hx hb hK hP 1 0 rfl rfl (i := 0) (vp_in_iff.mpr (by decide)) dX8_page_100 ?_
                refine lt_top (y := ((x_11 0) 0)) rfl ?_
                refine lv_iload_n hx hb dX8_page_101 rfl (lv_at hl 1 rfl) ?_
                refine lv_iconst (v := 2) hx hb dX8_page_102 (by decide) ?_
                refine lv_idiv hx hb dX8_page_103 (by decide) ?_
                refine lv_isub hx hb dX8_page_104 ?_
                refine lv_goto (tgt := 113) hx hb dX8_page_105 (by decide) ?_
                have ho_113 := hs.1; have hs := hs.2
                have hPc := hP.sub (ws' := lt_Ro yI (M 1) 532 (x_11 0)) [1] rfl
                refine lt_cR (va_runS (As := [.ref (M 1), .int (((x_11 0) 0) - (p0 / 2))]) (rest := []) ⟨hx, hb, hml, hown, hts⟩ (c_X8_isGood l D yI yC yO (M 1) (x_11 0) (((x_11 0) 0) - (p0 / 2)) ho_113) (va_cwS 2 hts gX8_page_X8_isGood rfl rfl rfl (by decide +kernel) ⟨Nat.le_of_ble_eq_true rfl, Nat.le_of_ble_eq_true rfl⟩) (lt_pS hK0 hPc) rfl rfl hl.1 rfl (lv_room (Nat.le_of_ble_eq_true rfl)) dX8_page_113 ⟨Nat.zero_le _, Nat.zero_le _⟩) (fun r_113 e_r_113 => ?_)
                have hs := hs r_113 e_r_113
                refine lv_if_eq (tgt := 123) hx hb dX8_page_116 (by decide) (fun c_116 => ?_) (fun c_116 => ?_)
                · have hs := hs.1 c_116
                  refine lv_iconst (v := 0) hx hb dX8_page_123 (by decide) ?_
                  exact W.iret (v := 0) hx hb hret (fun t ht hW => ⟨⟨0, (x_11), rfl, (by subst e_r_113 e_x_11 e_r_2; exact (Eq.symm (Eq.trans (if_neg c_5) (Eq.trans (if_neg h_15_0) (Eq.trans (if_neg h_15_1) (Eq.trans (if_neg h_15_2) (Eq.trans (if_neg h_15_3) (Eq.trans (if_pos h_15_4) (Eq.trans (if_pos c_92) (Eq.trans (if_pos c_116) rfl)))))))))), by rw [ht]; exact hP, hD⟩, hS.F ht⟩) hS.2.2 dX8_page_124
                · have hs := hs.2 c_116
                  refine lv_iconst (v := 1) hx hb dX8_page_119 (by decide) ?_
                  refine lv_goto (tgt := 124) hx hb dX8_page_120 (by decide) ?_
                  exact W.iret (v := 1) hx hb hret (fun t ht hW => ⟨⟨1, (x_11), rfl, (by subst e_r_113 e_x_11 e_r_2; exact (Eq.symm (Eq.trans (if_neg c_5) (Eq.trans (if_neg h_15_0) (Eq.trans (if_neg h_15_1) (Eq.trans (if_neg h_15_2) (Eq.trans (if_neg h_15_3) (Eq.trans (if_pos h_15_4) (Eq.trans (if_pos c_92) (Eq.trans (if_neg c_116) rfl)))))))))), by rw [ht]; exact hP, hD⟩, hS.F ht⟩) hS.2.2 dX8_page_124
            · have hs := hs.2 h_15_4
              refine lv_tableOut (tgt := 125) hx hb dX8_page_15 (lt_sw0_4 h_15_0 h_15_1 h_15_2 h_15_3 h_15_4) (by decide) ?_
              refine lv_bipush (v := (-2)) hx hb dX8_page_125 (by decide) ?_
              exact W.iret (v := (-2)) hx hb hret (fun t ht hW => ⟨⟨(-2), (x_11), rfl, (by subst e_x_11 e_r_2; exact (Eq.symm (Eq.trans (if_neg c_5) (Eq.trans (if_neg h_15_0) (Eq.trans (if_neg h_15_1) (Eq.trans (if_neg h_15_2) (Eq.trans (if_neg h_15_3) (Eq.trans (if_neg h_15_4) rfl)))))))), by rw [ht]; exact hP, hD⟩, hS.F ht⟩) hS.2.2 dX8_page_127
  · have hs := hs.1 c_5
    refine lv_iconst (v := (-1)) hx hb dX8_page_8 (by decide) ?_
    exact W.iret (v := (-1)) hx hb hret (fun t ht hW => ⟨⟨(-1), (a), rfl, (by subst e_r_2; exact (Eq.symm (Eq.trans (if_pos c_5) rfl))), by rw [ht]; exact hP, hD⟩, hS.F ht⟩) hS.2.2 dX8_page_9

def X8_picture (i : Nat → Int32) (a : Nat → Nat → Int32) (p0 : Int32) (p1 : Int32) : Int32 × ((Nat → Nat → Int32)) :=
  let r_2 := X8_isPicture i a p0
  if r_2 = 0 then
    ((-1), (a))
  else
    let x_11 := X8_guessesAll i a
    if p1 = 0 then
      let r_59 := X8_ofPicture i x_11 p0 p1
      (r_59, (x_11))
    else
      if p1 = 1 then
        let r_59 := X8_ofPicture i x_11 p0 p1
        (r_59, (x_11))
      else
        if p1 = 2 then
          let r_59 := X8_ofPicture i x_11 p0 p1
          (r_59, (x_11))
        else
          if p1 = 3 then
            (((x_11 5) p0.toNatClampNeg), (x_11))
          else
            if p1 = 4 then
              let r_72 := X8_isSpare i x_11 p0
              if r_72 = 0 then
                (0, (x_11))
              else
                (1, (x_11))
            else
              if p1 = 5 then
                let r_87 := X8_ofPicture i x_11 p0 4
                (r_87, (x_11))
              else
                if p1 = 6 then
                  let r_94 := X8_ofPicture i x_11 p0 3
                  (r_94, (x_11))
                else
                  ((-2), (x_11))
def S_X8_picture (i : Nat → Int32) (a : Nat → Nat → Int32) (p0 : Int32) (p1 : Int32) : Prop :=
  (S_X8_isPicture i a p0) ∧
  ∀ r_2, r_2 = X8_isPicture i a p0 →
  (r_2 = 0 →
    True) ∧
  (¬ (r_2 = 0) →
    (S_X8_guessesAll i a) ∧
    ∀ x_11, x_11 = X8_guessesAll i a →
    (p1 = 0 →
      (S_X8_ofPicture i x_11 p0 p1) ∧
      ∀ r_59, r_59 = X8_ofPicture i x_11 p0 p1 →
      True) ∧
    (¬ (p1 = 0) →
      (p1 = 1 →
        (S_X8_ofPicture i x_11 p0 p1) ∧
        ∀ r_59, r_59 = X8_ofPicture i x_11 p0 p1 →
        True) ∧
      (¬ (p1 = 1) →
        (p1 = 2 →
          (S_X8_ofPicture i x_11 p0 p1) ∧
          ∀ r_59, r_59 = X8_ofPicture i x_11 p0 p1 →
          True) ∧
        (¬ (p1 = 2) →
          (p1 = 3 →
            (vp_in p0 80) ∧
            True) ∧
          (¬ (p1 = 3) →
            (p1 = 4 →
              (S_X8_isSpare i x_11 p0) ∧
              ∀ r_72, r_72 = X8_isSpare i x_11 p0 →
              (r_72 = 0 →
                True) ∧
              (¬ (r_72 = 0) →
                True)) ∧
            (¬ (p1 = 4) →
              (p1 = 5 →
                (S_X8_ofPicture i x_11 p0 4) ∧
                ∀ r_87, r_87 = X8_ofPicture i x_11 p0 4 →
                True) ∧
              (¬ (p1 = 5) →
                (p1 = 6 →
                  (S_X8_ofPicture i x_11 p0 3) ∧
                  ∀ r_94, r_94 = X8_ofPicture i x_11 p0 3 →
                  True) ∧
                (¬ (p1 = 6) →
                  True))))))))
theorem iw_X8_picture_8 : ∀ w ∈ wsX80, w ∈ wsX8_picture := by decide +kernel
set_option maxHeartbeats 4000000 in
set_option maxRecDepth 100000 in
theorem c_X8_picture (l : Launch) (D : va_G) (yI yC yO : ClassId) (M : Nat → Nat) (i : Nat → Int32) (a : Nat → Nat → Int32) (p0 : Int32) (p1 : Int32) (sz : Nat) (hs : S_X8_picture i a p0 p1) : Met l yX8_picture wsX8_picture ({ frames := 4, cells := 0, slots := 0, locals := 120 }) (va_Pc [.ref (M 0), .int p0, .int p1] (lt_M D yI yC yO (lt_Md yI yC M i a) sz)) (lt_Qi D (X8_picture i a p0 p1) (fun u => lt_Md yI yC M i u) (va_A (lt_Md yI yC M i a) sz)) 0 0 (va_A (lt_Md yI yC M i a) sz) := by
  refine Met.ofW (cc := cX8_picture) (maxL := 3) (ret := (some .int)) (by decide) rfl ?_
  intro p e s m args below meth c s₁ B0 hml hv
  obtain ⟨rfl, hsz, hP, hK0, hD0⟩ := hv
  have hx := B0.exec
  have hb := B0.bytes
  have hret := B0.returns
  have hts := atoms_spec (ws := wsX8_picture) B0.pre
  have hown : s.vm.findClass RX8 = some m.cls := findClass_of_methodNamed B0.named
  have hlocks := B0.notSynchronized
  have hK := hK0.1
  have hN := hK0.2
  subst hsz
  have hD := hD0.self (sz := s.heap.size)
  generalize hAe : va_A (lt_Md yI yC M i a) s.heap.size = A at hD ⊢
  have hA : ∀ q : Nat, s.heap.size ≤ q → A q := fun q h => by rw [← hAe]; exact Or.inr h
  have hS : va_S A s.heap s.heap [] := va_S.rf
  have hP : va_P D vwCl (lt_Md yI yC M i a) s.heap := hP
  have hD : va_D A (lt_Md yI yC M i a) := hD
  have hl := lv_entry ([.ref (M 0), .int p0, .int p1]) (n := 3) (Nat.le_of_ble_eq_true rfl)
  rw [lg_entry_eq]
  generalize (lg_sl ([.ref (M 0), .int p0, .int p1]) ++ List.replicate (3 - (lg_sl ([.ref (M 0), .int p0, .int p1])).length) Slot.unset).toArray = ls at hl ⊢
  have hl : lv_has ls 3 [(0, .ref (M 0)), (1, .int p0), (2, .int p1)] := hl
  refine lv_aload_n hx hb dX8_picture_0 rfl (lv_at hl 0 rfl) ?_
  refine lv_iload_n hx hb dX8_picture_1 rfl (lv_at hl 1 rfl) ?_
  have ho_2 := hs.1; have hs := hs.2
  have hPc := hP.sub (ws' := lt_Md yI yC M i a) [0, 1, 2, 3, 4, 5, 6, 7, 8] rfl
  refine lt_cR (va_runV (As := [.int p0]) (rest := []) ⟨hx, hb, hml, hown, hts⟩ (c_X8_isPicture l D yI yC yO M i a p0 ho_2) (cwV 1 hts gX8_picture_X8_isPicture rfl rfl rfl (by decide +kernel) ⟨Nat.le_of_ble_eq_true rfl, Nat.le_of_ble_eq_true rfl⟩) (lt_pV hK0 hPc (va_recv hK hPc (ci := 8) (q0 := 0) rfl rfl)) rfl rfl hl.1 rfl (lv_room (Nat.le_of_ble_eq_true rfl)) dX8_picture_2 ⟨Nat.zero_le _, Nat.zero_le _⟩) (fun r_2 e_r_2 => ?_)
  have hs := hs r_2 e_r_2
  refine lv_if_ne (tgt := 10) hx hb dX8_picture_5 (by decide) (fun c_5 => ?_) (fun c_5 => ?_)
  · have hs := hs.2 c_5
    refine lv_aload_n hx hb dX8_picture_10 rfl (lv_at hl 0 rfl) ?_
    have ho_11 := hs.1; have hs := hs.2
    have hPc := hP.sub (ws' := lt_Md yI yC M i a) [0, 1, 2, 3, 4, 5, 6, 7, 8] rfl
    have hDc := hD.sub (ws' := lt_Md yI yC M i a) [0, 1, 2, 3, 4, 5, 6, 7, 8] (by decide) rfl
    refine lt_cWv (wc := lt_Md yI yC M i a) (wr := []) (va_runV (As := []) (rest := []) ⟨hx, hb, hml, hown, hts⟩ (c_X8_guessesAll l D yI yC yO M i a _ ho_11) (cwV 0 hts gX8_picture_X8_guessesAll rfl rfl rfl (by decide +kernel) ⟨Nat.le_of_ble_eq_true rfl, Nat.le_of_ble_eq_true rfl⟩) (lt_qV hK0 hPc hDc (va_recv hK hPc (ci := 8) (q0 := 0) rfl rfl)) rfl rfl hl.1 rfl (lv_room (Nat.le_of_ble_eq_true rfl)) dX8_picture_11 ⟨Nat.zero_le _, Nat.zero_le _⟩) hP hD hS hA [0, 1, 2, 3, 4, 5, 6, 7, 8] [] rfl rfl (by decide) (by decide) (fun x_11 e_x_11 H locs hP hD hS => ?_)
    have hP := hP.sub (ws' := lt_Md yI yC M i x_11) [0, 1, 2, 3, 4, 5, 6, 7, 8] rfl
    have hD := hD.sub (ws' := lt_Md yI yC M i x_11) [0, 1, 2, 3, 4, 5, 6, 7, 8] (by decide) rfl
    have hs := hs x_11 e_x_11
    refine lv_iload_n hx hb dX8_picture_14 rfl (lv_at hl 2 rfl) ?_
    rcases Decidable.em (p1 = 0) with h_15_0 | h_15_0
    · have hs := hs.1 h_15_0
      refine lv_tableIn (off := 41) (tgt := 56) hx hb dX8_picture_15 (by rw [h_15_0]; decide) (by rw [h_15_0]; decide) (by rw [h_15_0]; rfl) (by decide) ?_
      refine lv_aload_n hx hb dX8_picture_56 rfl (lv_at hl 0 rfl) ?_
      refine lv_iload_n hx hb dX8_picture_57 rfl (lv_at hl 1 rfl) ?_
      refine lv_iload_n hx hb dX8_picture_58 rfl (lv_at hl 2 rfl) ?_
      have ho_59 := hs.1; have hs := hs.2
      have hPc := hP.sub (ws' := lt_Md yI yC M i x_11) [0, 1, 2, 3, 4, 5, 6, 7, 8] rfl
      refine lt_cR (va_runV (As := [.int p0, .int p1]) (rest := []) ⟨hx, hb, hml, hown, hts⟩ (c_X8_ofPicture l D yI yC yO M i x_11 p0 p1 ho_59) (cwV 2 hts gX8_picture_X8_ofPicture rfl rfl rfl (by decide +kernel) ⟨Nat.le_of_ble_eq_true rfl, Nat.le_of_ble_eq_true rfl⟩) (lt_pV hK0 hPc (va_recv hK hPc (ci := 8) (q0 := 0) rfl rfl)) rfl rfl hl.1 rfl (lv_room (Nat.le_of_ble_eq_true rfl)) dX8_picture_59 ⟨Nat.zero_le _, Nat.zero_le _⟩) (fun r_59 e_r_59 => ?_)
      have hs := hs r_59 e_r_59
      exact W.iret (v := r_59) hx hb hret (fun t ht hW => ⟨⟨r_59, (x_11), rfl, (by subst e_r_59 e_x_11 e_r_2; exact (Eq.symm (Eq.trans (if_neg c_5) (Eq.trans (if_pos h_15_0) rfl)))), by rw [ht]; exact hP, hD⟩, hS.F ht⟩) hS.2.2 dX8_picture_62
    · have hs := hs.2 h_15_0
      rcases Decidable.em (p1 = 1) with h_15_1 | h_15_1
      · have hs := hs.1 h_15_1
        refine lv_tableIn (off := 41) (tgt := 56) hx hb dX8_picture_15 (by rw [h_15_1]; decide) (by rw [h_15_1]; decide) (by rw [h_15_1]; rfl) (by decide) ?_
        refine lv_aload_n hx hb dX8_picture_56 rfl (lv_at hl 0 rfl) ?_
        refine lv_iload_n hx hb dX8_picture_57 rfl (lv_at hl 1 rfl) ?_
        refine lv_iload_n hx hb dX8_picture_58 rfl (lv_at hl 2 rfl) ?_
        have ho_59 := hs.1; have hs := hs.2
        have hPc := hP.sub (ws' := lt_Md yI yC M i x_11) [0, 1, 2, 3, 4, 5, 6, 7, 8] rfl
        refine lt_cR (va_runV (As := [.int p0, .int p1]) (rest := []) ⟨hx, hb, hml, hown, hts⟩ (c_X8_ofPicture l D yI yC yO M i x_11 p0 p1 ho_59) (cwV 2 hts gX8_picture_X8_ofPicture rfl rfl rfl (by decide +kernel) ⟨Nat.le_of_ble_eq_true rfl, Nat.le_of_ble_eq_true rfl⟩) (lt_pV hK0 hPc (va_recv hK hPc (ci := 8) (q0 := 0) rfl rfl)) rfl rfl hl.1 rfl (lv_room (Nat.le_of_ble_eq_true rfl)) dX8_picture_59 ⟨Nat.zero_le _, Nat.zero_le _⟩) (fun r_59 e_r_59 => ?_)
        have hs := hs r_59 e_r_59
        exact W.iret (v := r_59) hx hb hret (fun t ht hW => ⟨⟨r_59, (x_11), rfl, (by subst e_r_59 e_x_11 e_r_2; exact (Eq.symm (Eq.trans (if_neg c_5) (Eq.trans (if_neg h_15_0) (Eq.trans (if_pos h_15_1) rfl))))), by rw [ht]; exact hP, hD⟩, hS.F ht⟩) hS.2.2 dX8_picture_62
      · have hs := hs.2 h_15_1
        rcases Decidable.em (p1 = 2) with h_15_2 | h_15_2
        · have hs := hs.1 h_15_2
          refine lv_tableIn (off := 41) (tgt := 56) hx hb dX8_picture_15 (by rw [h_15_2]; decide) (by rw [h_15_2]; decide) (by rw [h_15_2]; rfl) (by decide) ?_
          refine lv_aload_n hx hb dX8_picture_56 rfl (lv_at hl 0 rfl) ?_
          refine lv_iload_n hx hb dX8_picture_57 rfl (lv_at hl 1 rfl) ?_
          refine lv_iload_n hx hb dX8_picture_58 rfl (lv_at hl 2 rfl) ?_
          have ho_59 := hs.1; have hs := hs.2
          have hPc := hP.sub (ws' := lt_Md yI yC M i x_11) [0, 1, 2, 3, 4, 5, 6, 7, 8] rfl
          refine lt_cR (va_runV (As := [.int p0, .int p1]) (rest := []) ⟨hx, hb, hml, hown, hts⟩ (c_X8_ofPicture l D yI yC yO M i x_11 p0 p1 ho_59) (cwV 2 hts gX8_picture_X8_ofPicture rfl rfl rfl (by decide +kernel) ⟨Nat.le_of_ble_eq_true rfl, Nat.le_of_ble_eq_true rfl⟩) (lt_pV hK0 hPc (va_recv hK hPc (ci := 8) (q0 := 0) rfl rfl)) rfl rfl hl.1 rfl (lv_room (Nat.le_of_ble_eq_true rfl)) dX8_picture_59 ⟨Nat.zero_le _, Nat.zero_le _⟩) (fun r_59 e_r_59 => ?_)
          have hs := hs r_59 e_r_59
          exact W.iret (v := r_59) hx hb hret (fun t ht hW => ⟨⟨r_59, (x_11), rfl, (by subst e_r_59 e_x_11 e_r_2; exact (Eq.symm (Eq.trans (if_neg c_5) (Eq.trans (if_neg h_15_0) (Eq.trans (if_neg h_15_1) (Eq.trans (if_pos h_15_2) rfl)))))), by rw [ht]; exact hP, hD⟩, hS.F ht⟩) hS.2.2 dX8_picture_62
        · have hs := hs.2 h_15_2
          rcases Decidable.em (p1 = 3) with h_15_3 | h_15_3
          · have hs := hs.1 h_15_3
            refine lv_tableIn (off := 48) (tgt := 63) hx hb dX8_picture_15 (by rw [h_15_3]; decide) (by rw [h_15_3]; decide) (by rw [h_15_3]; rfl) (by decide) ?_
            refine lv_aload_n hx hb dX8_picture_63 rfl (lv_at hl 0 rfl) ?_
            refine va_get (D := D) (ci := 8) (v := .ref (M 6)) (C := RX8) (T := TX8) (N := 13) hx hb hts iw_X8_picture_8 hown hK hP 0 rfl rfl 8 (by decide) (hts (.fieldLink RX8 26 "LeafTurnerModel" "guesses" "[I") (by decide +kernel)) (fun _ h9 => h9) rfl dX8_picture_64 ?_
            refine lv_iload_n hx hb dX8_picture_67 rfl (lv_at hl 1 rfl) ?_
            have ho_68 := hs.1; have hs := hs.2
            refine va_iald hx hb hK hP 6 0 rfl rfl (i := p0) (ho_68) dX8_picture_68 ?_
            exact W.iret (v := ((x_11 5) p0.toNatClampNeg)) hx hb hret (fun t ht hW => ⟨⟨((x_11 5) p0.toNatClampNeg), (x_11), rfl, (by subst e_x_11 e_r_2; exact (Eq.symm (Eq.trans (if_neg c_5) (Eq.trans (if_neg h_15_0) (Eq.trans (if_neg h_15_1) (Eq.trans (if_neg h_15_2) (Eq.trans (if_pos h_15_3) rfl))))))), by rw [ht]; exact hP, hD⟩, hS.F ht⟩) hS.2.2 dX8_picture_69
          · have hs := hs.2 h_15_3
            rcases Decidable.em (p1 = 4) with h_15_4 | h_15_4
            · have hs := hs.1 h_15_4
              refine lv_tableIn (off := 55) (tgt := 70) hx hb dX8_picture_15 (by rw [h_15_4]; decide) (by rw [h_15_4]; decide) (by rw [h_15_4]; rfl) (by decide) ?_
              refine lv_aload_n hx hb dX8_picture_70 rfl (lv_at hl 0 rfl) ?_
              refine lv_iload_n hx hb dX8_picture_71 rfl (lv_at hl 1 rfl) ?_
              have ho_72 := hs.1; have hs := hs.2
              have hPc := hP.sub (ws' := lt_Md yI yC M i x_11) [0, 1, 2, 3, 4, 5, 6, 7, 8] rfl
              refine lt_cR (va_runV (As := [.int p0]) (rest := []) ⟨hx, hb, hml, hown, hts⟩ (c_X8_isSpare l D yI yC yO M i x_11 p0 ho_72) (cwV 1 hts gX8_picture_X8_isSpare rfl rfl rfl (by decide +kernel) ⟨Nat.le_of_ble_eq_true rfl, Nat.le_of_ble_eq_true rfl⟩) (lt_pV hK0 hPc (va_recv hK hPc (ci := 8) (q0 := 0) rfl rfl)) rfl rfl hl.1 rfl (lv_room (Nat.le_of_ble_eq_true rfl)) dX8_picture_72 ⟨Nat.zero_le _, Nat.zero_le _⟩) (fun r_72 e_r_72 => ?_)
              have hs := hs r_72 e_r_72
              refine lv_if_eq (tgt := 82) hx hb dX8_picture_75 (by decide) (fun c_75 => ?_) (fun c_75 => ?_)
              · have hs := hs.1 c_75
                refine lv_iconst (v := 0) hx hb dX8_picture_82 (by decide) ?_
                exact W.iret (v := 0) hx hb hret (fun t ht hW => ⟨⟨0, (x_11), rfl, (by subst e_r_72 e_x_11 e_r_2; exact (Eq.symm (Eq.trans (if_neg c_5) (Eq.trans (if_neg h_15_0) (Eq.trans (if_neg h_15_1) (Eq.trans (if_neg h_15_2) (Eq.trans (if_neg h_15_3) (Eq.trans (if_pos h_15_4) (Eq.trans (if_pos c_75) rfl))))))))), by rw [ht]; exact hP, hD⟩, hS.F ht⟩) hS.2.2 dX8_picture_83
              · have hs := hs.2 c_75
                refine lv_iconst (v := 1) hx hb dX8_picture_78 (by decide) ?_
                refine lv_goto (tgt := 83) hx hb dX8_picture_79 (by decide) ?_
                exact W.iret (v := 1) hx hb hret (fun t ht hW => ⟨⟨1, (x_11), rfl, (by subst e_r_72 e_x_11 e_r_2; exact (Eq.symm (Eq.trans (if_neg c_5) (Eq.trans (if_neg h_15_0) (Eq.trans (if_neg h_15_1) (Eq.trans (if_neg h_15_2) (Eq.trans (if_neg h_15_3) (Eq.trans (if_pos h_15_4) (Eq.trans (if_neg c_75) rfl))))))))), by rw [ht]; exact hP, hD⟩, hS.F ht⟩) hS.2.2 dX8_picture_83
            · have hs := hs.2 h_15_4
              rcases Decidable.em (p1 = 5) with h_15_5 | h_15_5
              · have hs := hs.1 h_15_5
                refine lv_tableIn (off := 69) (tgt := 84) hx hb dX8_picture_15 (by rw [h_15_5]; decide) (by rw [h_15_5]; decide) (by rw [h_15_5]; rfl) (by decide) ?_
                refine lv_aload_n hx hb dX8_picture_84 rfl (lv_at hl 0 rfl) ?_
                refine lv_iload_n hx hb dX8_picture_85 rfl (lv_at hl 1 rfl) ?_
                refine lv_iconst (v := 4) hx hb dX8_picture_86 (by decide) ?_
                have ho_87 := hs.1; have hs := hs.2
                have hPc := hP.sub (ws' := lt_Md yI yC M i x_11) [0, 1, 2, 3, 4, 5, 6, 7, 8] rfl
                refine lt_cR (va_runV (As := [.int p0, .int 4]) (rest := []) ⟨hx, hb, hml, hown, hts⟩ (c_X8_ofPicture l D yI yC yO M i x_11 p0 4 ho_87) (cwV 2 hts gX8_picture_X8_ofPicture rfl rfl rfl (by decide +kernel) ⟨Nat.le_of_ble_eq_true rfl, Nat.le_of_ble_eq_true rfl⟩) (lt_pV hK0 hPc (va_recv hK hPc (ci := 8) (q0 := 0) rfl rfl)) rfl rfl hl.1 rfl (lv_room (Nat.le_of_ble_eq_true rfl)) dX8_picture_87 ⟨Nat.zero_le _, Nat.zero_le _⟩) (fun r_87 e_r_87 => ?_)
                have hs := hs r_87 e_r_87
                exact W.iret (v := r_87) hx hb hret (fun t ht hW => ⟨⟨r_87, (x_11), rfl, (by subst e_r_87 e_x_11 e_r_2; exact (Eq.symm (Eq.trans (if_neg c_5) (Eq.trans (if_neg h_15_0) (Eq.trans (if_neg h_15_1) (Eq.trans (if_neg h_15_2) (Eq.trans (if_neg h_15_3) (Eq.trans (if_neg h_15_4) (Eq.trans (if_pos h_15_5) rfl))))))))), by rw [ht]; exact hP, hD⟩, hS.F ht⟩) hS.2.2 dX8_picture_90
              · have hs := hs.2 h_15_5
                rcases Decidable.em (p1 = 6) with h_15_6 | h_15_6
                · have hs := hs.1 h_15_6
                  refine lv_tableIn (off := 76) (tgt := 91) hx hb dX8_picture_15 (by rw [h_15_6]; decide) (by rw [h_15_6]; decide) (by rw [h_15_6]; rfl) (by decide) ?_
                  refine lv_aload_n hx hb dX8_picture_91 rfl (lv_at hl 0 rfl) ?_
                  refine lv_iload_n hx hb dX8_picture_92 rfl (lv_at hl 1 rfl) ?_
                  refine lv_iconst (v := 3) hx hb dX8_picture_93 (by decide) ?_
                  have ho_94 := hs.1; have hs := hs.2
                  have hPc := hP.sub (ws' := lt_Md yI yC M i x_11) [0, 1, 2, 3, 4, 5, 6, 7, 8] rfl
                  refine lt_cR (va_runV (As := [.int p0, .int 3]) (rest := []) ⟨hx, hb, hml, hown, hts⟩ (c_X8_ofPicture l D yI yC yO M i x_11 p0 3 ho_94) (cwV 2 hts gX8_picture_X8_ofPicture rfl rfl rfl (by decide +kernel) ⟨Nat.le_of_ble_eq_true rfl, Nat.le_of_ble_eq_true rfl⟩) (lt_pV hK0 hPc (va_recv hK hPc (ci := 8) (q0 := 0) rfl rfl)) rfl rfl hl.1 rfl (lv_room (Nat.le_of_ble_eq_true rfl)) dX8_picture_94 ⟨Nat.zero_le _, Nat.zero_le _⟩) (fun r_94 e_r_94 => ?_)
                  have hs := hs r_94 e_r_94
                  exact W.iret (v := r_94) hx hb hret (fun t ht hW => ⟨⟨r_94, (x_11), rfl, (by subst e_r_94 e_x_11 e_r_2; exact (Eq.symm (Eq.trans (if_neg c_5) (Eq.trans (if_neg h_15_0) (Eq.trans (if_neg h_15_1) (Eq.trans (if_neg h_15_2) (Eq.trans (if_neg h_15_3) (Eq.trans (if_neg h_15_4) (Eq.trans (if_neg h_15_5) (Eq.trans (if_pos h_15_6) rfl)))))))))), by rw [ht]; exact hP, hD⟩, hS.F ht⟩) hS.2.2 dX8_picture_97
                · have hs := hs.2 h_15_6
                  refine lv_tableOut (tgt := 98) hx hb dX8_picture_15 (lt_sw0_6 h_15_0 h_15_1 h_15_2 h_15_3 h_15_4 h_15_5 h_15_6) (by decide) ?_
                  refine lv_bipush (v := (-2)) hx hb dX8_picture_98 (by decide) ?_
                  exact W.iret (v := (-2)) hx hb hret (fun t ht hW => ⟨⟨(-2), (x_11), rfl, (by subst e_x_11 e_r_2; exact (Eq.symm (Eq.trans (if_neg c_5) (Eq.trans (if_neg h_15_0) (Eq.trans (if_neg h_15_1) (Eq.trans (if_neg h_15_2) (Eq.trans (if_neg h_15_3) (Eq.trans (if_neg h_15_4) (Eq.trans (if_neg h_15_5) (Eq.trans (if_neg h_15_6) rfl)))))))))), by rw [ht]; exact hP, hD⟩, hS.F ht⟩) hS.2.2 dX8_picture_100
  · have hs := hs.1 c_5
    refine lv_iconst (v := (-1)) hx hb dX8_picture_8 (by decide) ?_
    exact W.iret (v := (-1)) hx hb hret (fun t ht hW => ⟨⟨(-1), (a), rfl, (by subst e_r_2; exact (Eq.symm (Eq.trans (if_pos c_5) rfl))), by rw [ht]; exact hP, hD⟩, hS.F ht⟩) hS.2.2 dX8_picture_9

def X8_open (i : Nat → Int32) (a : Nat → Nat → Int32) (p0 : Int32) : Int32 :=
  let r_3 := X8_in p0 0 1
  if r_3 = 0 then
    (-2)
  else
    let r_14 := X8_openOn (a 0) p0
    r_14
def S_X8_open (i : Nat → Int32) (a : Nat → Nat → Int32) (p0 : Int32) : Prop :=
  ∀ r_3, r_3 = X8_in p0 0 1 →
  (r_3 = 0 →
    True) ∧
  (¬ (r_3 = 0) →
    (S_X8_openOn (a 0) p0) ∧
    ∀ r_14, r_14 = X8_openOn (a 0) p0 →
    True)
theorem iw_X8_open_8 : ∀ w ∈ wsX80, w ∈ wsX8_open := by decide +kernel
set_option maxHeartbeats 4000000 in
set_option maxRecDepth 100000 in
theorem c_X8_open (l : Launch) (D : va_G) (yI yC yO : ClassId) (M : Nat → Nat) (i : Nat → Int32) (a : Nat → Nat → Int32) (p0 : Int32) (hs : S_X8_open i a p0) : Met l yX8_open wsX8_open ({ frames := 1, cells := 0, slots := 0, locals := 30 }) (va_Pc [.ref (M 0), .int p0] (lt_R D yI yC yO (lt_Md yI yC M i a))) (lt_Si (X8_open i a p0)) 0 0 (fun _ => False) := by
  refine Met.ofW (cc := cX8_open) (maxL := 2) (ret := (some .int)) (by decide) rfl ?_
  intro p e s m args below meth c s₁ B0 hml hv
  obtain ⟨rfl, hP, hK0⟩ := hv
  have hx := B0.exec
  have hb := B0.bytes
  have hret := B0.returns
  have hts := atoms_spec (ws := wsX8_open) B0.pre
  have hown : s.vm.findClass RX8 = some m.cls := findClass_of_methodNamed B0.named
  have hlocks := B0.notSynchronized
  have hK := hK0.1
  have hN := hK0.2
  have hP : va_P D vwCl (lt_Md yI yC M i a) s.heap := hP
  have hl := lv_entry ([.ref (M 0), .int p0]) (n := 2) (Nat.le_of_ble_eq_true rfl)
  rw [lg_entry_eq]
  generalize (lg_sl ([.ref (M 0), .int p0]) ++ List.replicate (2 - (lg_sl ([.ref (M 0), .int p0])).length) Slot.unset).toArray = ls at hl ⊢
  have hl : lv_has ls 2 [(0, .ref (M 0)), (1, .int p0)] := hl
  refine lv_iload_n hx hb dX8_open_0 rfl (lv_at hl 1 rfl) ?_
  refine lv_iconst (v := 0) hx hb dX8_open_1 (by decide) ?_
  refine lv_iconst (v := 1) hx hb dX8_open_2 (by decide) ?_
  have hPc := hP.sub (ws' := ([] : va_W)) [] rfl
  refine lt_cR (va_runS (As := [.int p0, .int 0, .int 1]) (rest := []) ⟨hx, hb, hml, hown, hts⟩ (c_X8_in l D yI yC yO p0 0 1 ) (va_cwS 3 hts gX8_open_X8_in rfl rfl rfl (by decide +kernel) ⟨Nat.le_of_ble_eq_true rfl, Nat.le_of_ble_eq_true rfl⟩) (lt_pS hK0 hPc) rfl rfl hl.1 rfl (lv_room (Nat.le_of_ble_eq_true rfl)) dX8_open_3 ⟨Nat.zero_le _, Nat.zero_le _⟩) (fun r_3 e_r_3 => ?_)
  have hs := hs r_3 e_r_3
  refine lv_if_eq (tgt := 20) hx hb dX8_open_6 (by decide) (fun c_6 => ?_) (fun c_6 => ?_)
  · have hs := hs.1 c_6
    refine lv_bipush (v := (-2)) hx hb dX8_open_20 (by decide) ?_
    exact W.iret (v := (-2)) hx hb hret (fun t ht hW => ⟨(-2), rfl, (by subst e_r_3; exact (Eq.symm (Eq.trans (if_pos c_6) rfl))), ht⟩) (fun _ h => absurd h List.not_mem_nil) dX8_open_22
  · have hs := hs.2 c_6
    refine lv_aload_n hx hb dX8_open_9 rfl (lv_at hl 0 rfl) ?_
    refine va_get (D := D) (ci := 8) (v := .ref (M 1)) (C := RX8) (T := TX8) (N := 13) hx hb hts iw_X8_open_8 hown hK hP 0 rfl rfl 0 (by decide) (hts (.fieldLink RX8 7 "LeafTurnerModel" "now" "[I") (by decide +kernel)) (fun _ h9 => h9) rfl dX8_open_10 ?_
    refine lv_iload_n hx hb dX8_open_13 rfl (lv_at hl 1 rfl) ?_
    have ho_14 := hs.1; have hs := hs.2
    have hPc := hP.sub (ws' := lt_Ro yI (M 1) 532 (a 0)) [1] rfl
    refine lt_cR (va_runS (As := [.ref (M 1), .int p0]) (rest := []) ⟨hx, hb, hml, hown, hts⟩ (c_X8_openOn l D yI yC yO (M 1) (a 0) p0 ho_14) (va_cwS 2 hts gX8_open_X8_openOn rfl rfl rfl (by decide +kernel) ⟨Nat.le_of_ble_eq_true rfl, Nat.le_of_ble_eq_true rfl⟩) (lt_pS hK0 hPc) rfl rfl hl.1 rfl (lv_room (Nat.le_of_ble_eq_true rfl)) dX8_open_14 ⟨Nat.zero_le _, Nat.zero_le _⟩) (fun r_14 e_r_14 => ?_)
    have hs := hs r_14 e_r_14
    refine lv_goto (tgt := 22) hx hb dX8_open_17 (by decide) ?_
    exact W.iret (v := r_14) hx hb hret (fun t ht hW => ⟨r_14, rfl, (by subst e_r_14 e_r_3; exact (Eq.symm (Eq.trans (if_neg c_6) rfl))), ht⟩) (fun _ h => absurd h List.not_mem_nil) dX8_open_22

def X8_would (i : Nat → Int32) (a : Nat → Nat → Int32) (p0 : Int32) : Int32 :=
  let r_4 := X8_in p0 1 20
  if r_4 = 0 then
    (-2)
  else
    let r_14 := X8_isRight i a
    if r_14 = 0 then
      (-4)
    else
      let r_25 := X8_wouldTurn (a 0) p0
      r_25
def S_X8_would (i : Nat → Int32) (a : Nat → Nat → Int32) (p0 : Int32) : Prop :=
  ∀ r_4, r_4 = X8_in p0 1 20 →
  (r_4 = 0 →
    True) ∧
  (¬ (r_4 = 0) →
    (S_X8_isRight i a) ∧
    ∀ r_14, r_14 = X8_isRight i a →
    (r_14 = 0 →
      True) ∧
    (¬ (r_14 = 0) →
      (S_X8_wouldTurn (a 0) p0) ∧
      ∀ r_25, r_25 = X8_wouldTurn (a 0) p0 →
      True))
theorem iw_X8_would_8 : ∀ w ∈ wsX80, w ∈ wsX8_would := by decide +kernel
set_option maxHeartbeats 4000000 in
set_option maxRecDepth 100000 in
theorem c_X8_would (l : Launch) (D : va_G) (yI yC yO : ClassId) (M : Nat → Nat) (i : Nat → Int32) (a : Nat → Nat → Int32) (p0 : Int32) (hs : S_X8_would i a p0) : Met l yX8_would wsX8_would ({ frames := 1, cells := 0, slots := 0, locals := 30 }) (va_Pc [.ref (M 0), .int p0] (lt_R D yI yC yO (lt_Md yI yC M i a))) (lt_Si (X8_would i a p0)) 0 0 (fun _ => False) := by
  refine Met.ofW (cc := cX8_would) (maxL := 2) (ret := (some .int)) (by decide) rfl ?_
  intro p e s m args below meth c s₁ B0 hml hv
  obtain ⟨rfl, hP, hK0⟩ := hv
  have hx := B0.exec
  have hb := B0.bytes
  have hret := B0.returns
  have hts := atoms_spec (ws := wsX8_would) B0.pre
  have hown : s.vm.findClass RX8 = some m.cls := findClass_of_methodNamed B0.named
  have hlocks := B0.notSynchronized
  have hK := hK0.1
  have hN := hK0.2
  have hP : va_P D vwCl (lt_Md yI yC M i a) s.heap := hP
  have hl := lv_entry ([.ref (M 0), .int p0]) (n := 2) (Nat.le_of_ble_eq_true rfl)
  rw [lg_entry_eq]
  generalize (lg_sl ([.ref (M 0), .int p0]) ++ List.replicate (2 - (lg_sl ([.ref (M 0), .int p0])).length) Slot.unset).toArray = ls at hl ⊢
  have hl : lv_has ls 2 [(0, .ref (M 0)), (1, .int p0)] := hl
  refine lv_iload_n hx hb dX8_would_0 rfl (lv_at hl 1 rfl) ?_
  refine lv_iconst (v := 1) hx hb dX8_would_1 (by decide) ?_
  refine lv_bipush (v := 20) hx hb dX8_would_2 (by decide) ?_
  have hPc := hP.sub (ws' := ([] : va_W)) [] rfl
  refine lt_cR (va_runS (As := [.int p0, .int 1, .int 20]) (rest := []) ⟨hx, hb, hml, hown, hts⟩ (c_X8_in l D yI yC yO p0 1 20 ) (va_cwS 3 hts gX8_would_X8_in rfl rfl rfl (by decide +kernel) ⟨Nat.le_of_ble_eq_true rfl, Nat.le_of_ble_eq_true rfl⟩) (lt_pS hK0 hPc) rfl rfl hl.1 rfl (lv_room (Nat.le_of_ble_eq_true rfl)) dX8_would_4 ⟨Nat.zero_le _, Nat.zero_le _⟩) (fun r_4 e_r_4 => ?_)
  have hs := hs r_4 e_r_4
  refine lv_if_ne (tgt := 13) hx hb dX8_would_7 (by decide) (fun c_7 => ?_) (fun c_7 => ?_)
  · have hs := hs.2 c_7
    refine lv_aload_n hx hb dX8_would_13 rfl (lv_at hl 0 rfl) ?_
    have ho_14 := hs.1; have hs := hs.2
    have hPc := hP.sub (ws' := lt_Md yI yC M i a) [0, 1, 2, 3, 4, 5, 6, 7, 8] rfl
    refine lt_cR (va_runV (As := []) (rest := []) ⟨hx, hb, hml, hown, hts⟩ (c_X8_isRight l D yI yC yO M i a ho_14) (cwV 0 hts gX8_would_X8_isRight rfl rfl rfl (by decide +kernel) ⟨Nat.le_of_ble_eq_true rfl, Nat.le_of_ble_eq_true rfl⟩) (lt_pV hK0 hPc (va_recv hK hPc (ci := 8) (q0 := 0) rfl rfl)) rfl rfl hl.1 rfl (lv_room (Nat.le_of_ble_eq_true rfl)) dX8_would_14 ⟨Nat.zero_le _, Nat.zero_le _⟩) (fun r_14 e_r_14 => ?_)
    have hs := hs r_14 e_r_14
    refine lv_if_eq (tgt := 31) hx hb dX8_would_17 (by decide) (fun c_17 => ?_) (fun c_17 => ?_)
    · have hs := hs.1 c_17
      refine lv_bipush (v := (-4)) hx hb dX8_would_31 (by decide) ?_
      exact W.iret (v := (-4)) hx hb hret (fun t ht hW => ⟨(-4), rfl, (by subst e_r_14 e_r_4; exact (Eq.symm (Eq.trans (if_neg c_7) (Eq.trans (if_pos c_17) rfl)))), ht⟩) (fun _ h => absurd h List.not_mem_nil) dX8_would_33
    · have hs := hs.2 c_17
      refine lv_aload_n hx hb dX8_would_20 rfl (lv_at hl 0 rfl) ?_
      refine va_get (D := D) (ci := 8) (v := .ref (M 1)) (C := RX8) (T := TX8) (N := 13) hx hb hts iw_X8_would_8 hown hK hP 0 rfl rfl 0 (by decide) (hts (.fieldLink RX8 7 "LeafTurnerModel" "now" "[I") (by decide +kernel)) (fun _ h9 => h9) rfl dX8_would_21 ?_
      refine lv_iload_n hx hb dX8_would_24 rfl (lv_at hl 1 rfl) ?_
      have ho_25 := hs.1; have hs := hs.2
      have hPc := hP.sub (ws' := lt_Ro yI (M 1) 532 (a 0)) [1] rfl
      refine lt_cR (va_runS (As := [.ref (M 1), .int p0]) (rest := []) ⟨hx, hb, hml, hown, hts⟩ (c_X8_wouldTurn l D yI yC yO (M 1) (a 0) p0 ho_25) (va_cwS 2 hts gX8_would_X8_wouldTurn rfl rfl rfl (by decide +kernel) ⟨Nat.le_of_ble_eq_true rfl, Nat.le_of_ble_eq_true rfl⟩) (lt_pS hK0 hPc) rfl rfl hl.1 rfl (lv_room (Nat.le_of_ble_eq_true rfl)) dX8_would_25 ⟨Nat.zero_le _, Nat.zero_le _⟩) (fun r_25 e_r_25 => ?_)
      have hs := hs r_25 e_r_25
      refine lv_goto (tgt := 33) hx hb dX8_would_28 (by decide) ?_
      exact W.iret (v := r_25) hx hb hret (fun t ht hW => ⟨r_25, rfl, (by subst e_r_25 e_r_14 e_r_4; exact (Eq.symm (Eq.trans (if_neg c_7) (Eq.trans (if_neg c_17) rfl)))), ht⟩) (fun _ h => absurd h List.not_mem_nil) dX8_would_33
  · have hs := hs.1 c_7
    refine lv_bipush (v := (-2)) hx hb dX8_would_10 (by decide) ?_
    exact W.iret (v := (-2)) hx hb hret (fun t ht hW => ⟨(-2), rfl, (by subst e_r_4; exact (Eq.symm (Eq.trans (if_pos c_7) rfl))), ht⟩) (fun _ h => absurd h List.not_mem_nil) dX8_would_12

def X8_best_L12 (i : Nat → Int32) (a : Nat → Nat → Int32) : Nat → (Int32) → Int32
  | 0, _ => 0
  | fu + 1, v1 =>
    if 20 < v1 then
      (-5)
    else
      let r_23 := X8_wouldTurn (a 0) v1
      if r_23 = 1 then
        v1
      else
        X8_best_L12 i a fu (v1 + 1)
def S_X8_best_L12 (i : Nat → Int32) (a : Nat → Nat → Int32) : Nat → (Int32) → Prop
  | 0, _ => True
  | fu + 1, v1 =>
    (20 < v1 →
      True) ∧
    (¬ (20 < v1) →
      (S_X8_wouldTurn (a 0) v1) ∧
      ∀ r_23, r_23 = X8_wouldTurn (a 0) v1 →
      (r_23 = 1 →
        True) ∧
      (¬ (r_23 = 1) →
        (S_X8_best_L12 i a fu (v1 + 1)) ∧
        True))
def X8_best (i : Nat → Int32) (a : Nat → Nat → Int32) : Int32 :=
  let r_1 := X8_isRight i a
  if r_1 = 0 then
    (-4)
  else
    X8_best_L12 i a (((21 : Int32).toInt - (1 : Int32).toInt).toNat + 1) 1
def S_X8_best (i : Nat → Int32) (a : Nat → Nat → Int32) : Prop :=
  (S_X8_isRight i a) ∧
  ∀ r_1, r_1 = X8_isRight i a →
  (r_1 = 0 →
    True) ∧
  (¬ (r_1 = 0) →
    (S_X8_best_L12 i a (((21 : Int32).toInt - (1 : Int32).toInt).toNat + 1) 1) ∧
    True)
theorem iw_X8_best_8 : ∀ w ∈ wsX80, w ∈ wsX8_best := by decide +kernel
set_option maxHeartbeats 4000000 in
set_option maxRecDepth 100000 in
theorem c_X8_best (l : Launch) (D : va_G) (yI yC yO : ClassId) (M : Nat → Nat) (i : Nat → Int32) (a : Nat → Nat → Int32) (hs : S_X8_best i a) : Met l yX8_best wsX8_best ({ frames := 1, cells := 0, slots := 0, locals := 30 }) (va_Pc [.ref (M 0)] (lt_R D yI yC yO (lt_Md yI yC M i a))) (lt_Si (X8_best i a)) 0 0 (fun _ => False) := by
  refine Met.ofW (cc := cX8_best) (maxL := 2) (ret := (some .int)) (by decide) rfl ?_
  intro p e s m args below meth c s₁ B0 hml hv
  obtain ⟨rfl, hP, hK0⟩ := hv
  have hx := B0.exec
  have hb := B0.bytes
  have hret := B0.returns
  have hts := atoms_spec (ws := wsX8_best) B0.pre
  have hown : s.vm.findClass RX8 = some m.cls := findClass_of_methodNamed B0.named
  have hlocks := B0.notSynchronized
  have hK := hK0.1
  have hN := hK0.2
  have hP : va_P D vwCl (lt_Md yI yC M i a) s.heap := hP
  have hl := lv_entry ([.ref (M 0)]) (n := 2) (Nat.le_of_ble_eq_true rfl)
  rw [lg_entry_eq]
  generalize (lg_sl ([.ref (M 0)]) ++ List.replicate (2 - (lg_sl ([.ref (M 0)])).length) Slot.unset).toArray = ls at hl ⊢
  have hl : lv_has ls 2 [(0, .ref (M 0))] := hl
  refine lv_aload_n hx hb dX8_best_0 rfl (lv_at hl 0 rfl) ?_
  have ho_1 := hs.1; have hs := hs.2
  have hPc := hP.sub (ws' := lt_Md yI yC M i a) [0, 1, 2, 3, 4, 5, 6, 7, 8] rfl
  refine lt_cR (va_runV (As := []) (rest := []) ⟨hx, hb, hml, hown, hts⟩ (c_X8_isRight l D yI yC yO M i a ho_1) (cwV 0 hts gX8_best_X8_isRight rfl rfl rfl (by decide +kernel) ⟨Nat.le_of_ble_eq_true rfl, Nat.le_of_ble_eq_true rfl⟩) (lt_pV hK0 hPc (va_recv hK hPc (ci := 8) (q0 := 0) rfl rfl)) rfl rfl hl.1 rfl (lv_room (Nat.le_of_ble_eq_true rfl)) dX8_best_1 ⟨Nat.zero_le _, Nat.zero_le _⟩) (fun r_1 e_r_1 => ?_)
  have hs := hs r_1 e_r_1
  refine lv_if_ne (tgt := 10) hx hb dX8_best_4 (by decide) (fun c_4 => ?_) (fun c_4 => ?_)
  · have hs := hs.2 c_4
    refine lv_iconst (v := 1) hx hb dX8_best_10 (by decide) ?_
    refine lv_istore_n (lv' := [(1, .int 1), (0, .ref (M 0))]) hx hb dX8_best_11 rfl hl (by decide) rfl (fun ls hl => ?_)
    refine lt_loop (σ := (Int32)) (fun fu (x : (Int32)) H locs ls => ∃ (v1 : Int32), x = (v1) ∧ lt_fu fu (21) (v1) ∧ X8_best_L12 i a fu v1 = X8_best i a ∧ S_X8_best_L12 i a fu v1 ∧ H = s.heap ∧ locs = [] ∧ lv_has ls 2 [(1, .int v1), (0, .ref (M 0))]) ?_ ?_ (((21 : Int32).toInt - (1 : Int32).toInt).toNat + 1) (1) _ _ _ ⟨1, rfl, lt_fuI _ _, (by subst e_r_1; exact (Eq.symm (Eq.trans (if_neg c_4) rfl))), hs.1, rfl, rfl, (lv_sub hl [0, 1] rfl)⟩
    · rintro x H locs ls ⟨_, -, hF, -⟩
      exact lt_fu0 hF
    · rintro fu ih v1 H locs ls ⟨_, rfl, hF, hT, hs, rfl, rfl, hl⟩
      refine lv_iload_n hx hb dX8_best_12 rfl (lv_at hl 0 rfl) ?_
      refine lv_bipush (v := 20) hx hb dX8_best_13 (by decide) ?_
      refine lv_icmp_gt (tgt := 38) hx hb dX8_best_15 (by decide) (fun c_15 => ?_) (fun c_15 => ?_)
      · have hs := hs.1 c_15
        refine lv_bipush (v := (-5)) hx hb dX8_best_38 (by decide) ?_
        exact W.iret (v := (-5)) hx hb hret (fun t ht hW => ⟨(-5), rfl, (Eq.trans (Eq.symm (Eq.trans (if_pos c_15) rfl)) hT), ht⟩) (fun _ h => absurd h List.not_mem_nil) dX8_best_40
      · have hs := hs.2 c_15
        refine lv_aload_n hx hb dX8_best_18 rfl (lv_at hl 1 rfl) ?_
        refine va_get (D := D) (ci := 8) (v := .ref (M 1)) (C := RX8) (T := TX8) (N := 13) hx hb hts iw_X8_best_8 hown hK hP 0 rfl rfl 0 (by decide) (hts (.fieldLink RX8 7 "LeafTurnerModel" "now" "[I") (by decide +kernel)) (fun _ h9 => h9) rfl dX8_best_19 ?_
        refine lv_iload_n hx hb dX8_best_22 rfl (lv_at hl 0 rfl) ?_
        have ho_23 := hs.1; have hs := hs.2
        have hPc := hP.sub (ws' := lt_Ro yI (M 1) 532 (a 0)) [1] rfl
        refine lt_cR (va_runS (As := [.ref (M 1), .int v1]) (rest := []) ⟨hx, hb, hml, hown, hts⟩ (c_X8_wouldTurn l D yI yC yO (M 1) (a 0) v1 ho_23) (va_cwS 2 hts gX8_best_X8_wouldTurn rfl rfl rfl (by decide +kernel) ⟨Nat.le_of_ble_eq_true rfl, Nat.le_of_ble_eq_true rfl⟩) (lt_pS hK0 hPc) rfl rfl hl.1 rfl (lv_room (Nat.le_of_ble_eq_true rfl)) dX8_best_23 ⟨Nat.zero_le _, Nat.zero_le _⟩) (fun r_23 e_r_23 => ?_)
        have hs := hs r_23 e_r_23
        refine lv_iconst (v := 1) hx hb dX8_best_26 (by decide) ?_
        refine lv_icmp_ne (tgt := 32) hx hb dX8_best_27 (by decide) (fun c_27 => ?_) (fun c_27 => ?_)
        · have hs := hs.2 c_27
          refine lv_iinc (v := (v1 + 1)) (lv' := [(1, .int (v1 + 1)), (0, .ref (M 0))]) hx hb dX8_best_32 hl (k := 0) rfl (rfl) (by decide) rfl (fun ls hl => ?_)
          refine lv_goto (tgt := 12) hx hb dX8_best_35 (by decide) ?_
          exact ih ((v1 + 1)) _ _ _ ⟨(v1 + 1), rfl, lt_fuS hF (lt_le20 c_15), (by subst e_r_23; exact (Eq.trans (Eq.symm (Eq.trans (if_neg c_15) (Eq.trans (if_neg c_27) rfl))) hT)), hs.1, rfl, rfl, lv_sub hl [0, 1] rfl⟩
        · have hs := hs.1 c_27
          refine lv_iload_n hx hb dX8_best_30 rfl (lv_at hl 0 rfl) ?_
          exact W.iret (v := v1) hx hb hret (fun t ht hW => ⟨v1, rfl, (by subst e_r_23; exact (Eq.trans (Eq.symm (Eq.trans (if_neg c_15) (Eq.trans (if_pos c_27) rfl))) hT)), ht⟩) (fun _ h => absurd h List.not_mem_nil) dX8_best_31
  · have hs := hs.1 c_4
    refine lv_bipush (v := (-4)) hx hb dX8_best_7 (by decide) ?_
    exact W.iret (v := (-4)) hx hb hret (fun t ht hW => ⟨(-4), rfl, (by subst e_r_1; exact (Eq.symm (Eq.trans (if_pos c_4) rfl))), ht⟩) (fun _ h => absurd h List.not_mem_nil) dX8_best_9

def X8_lacking_L15 (i : Nat → Int32) (a : Nat → Nat → Int32) (p0 : Int32) : Nat → (Int32) → (Int32) → (Nat → Nat → Int32) → Int32 × ((Nat → Nat → Int32))
  | 0, _, _, _ => (0, (a))
  | fu + 1, v2, v3, a0 =>
    if (2 * ((a0 0) 0)) ≤ v3 then
      ((-5), (a0))
    else
      if ((a0 6) v3.toNatClampNeg) = (-5) then
        if v2 = 0 then
          (v3, (a0))
        else
          X8_lacking_L15 i a p0 fu (v2 + (-1)) (v3 + 1) a0
      else
        X8_lacking_L15 i a p0 fu v2 (v3 + 1) a0
def S_X8_lacking_L15 (i : Nat → Int32) (a : Nat → Nat → Int32) (p0 : Int32) : Nat → (Int32) → (Int32) → (Nat → Nat → Int32) → Prop
  | 0, _, _, _ => True
  | fu + 1, v2, v3, a0 =>
    ((2 * ((a0 0) 0)) ≤ v3 →
      True) ∧
    (¬ ((2 * ((a0 0) 0)) ≤ v3) →
      (vp_in v3 60) ∧
      (((a0 6) v3.toNatClampNeg) = (-5) →
        (v2 = 0 →
          True) ∧
        (¬ (v2 = 0) →
          (S_X8_lacking_L15 i a p0 fu (v2 + (-1)) (v3 + 1) a0) ∧
          True)) ∧
      (¬ (((a0 6) v3.toNatClampNeg) = (-5)) →
        (S_X8_lacking_L15 i a p0 fu v2 (v3 + 1) a0) ∧
        True))
def X8_lacking (i : Nat → Int32) (a : Nat → Nat → Int32) (p0 : Int32) : Int32 × ((Nat → Nat → Int32)) :=
  if 0 ≤ p0 then
    let x_8 := X8_guessesAll i a
    X8_lacking_L15 i a p0 (((2 * ((x_8 0) 0) : Int32).toInt - (0 : Int32).toInt).toNat + 1) p0 0 x_8
  else
    ((-2), (a))
def S_X8_lacking (i : Nat → Int32) (a : Nat → Nat → Int32) (p0 : Int32) : Prop :=
  (0 ≤ p0 →
    (S_X8_guessesAll i a) ∧
    ∀ x_8, x_8 = X8_guessesAll i a →
    (S_X8_lacking_L15 i a p0 (((2 * ((x_8 0) 0) : Int32).toInt - (0 : Int32).toInt).toNat + 1) p0 0 x_8) ∧
    True) ∧
  (¬ (0 ≤ p0) →
    True)
theorem iw_X8_lacking_8 : ∀ w ∈ wsX80, w ∈ wsX8_lacking := by decide +kernel
set_option maxHeartbeats 4000000 in
set_option maxRecDepth 100000 in
theorem c_X8_lacking (l : Launch) (D : va_G) (yI yC yO : ClassId) (M : Nat → Nat) (i : Nat → Int32) (a : Nat → Nat → Int32) (p0 : Int32) (sz : Nat) (hs : S_X8_lacking i a p0) : Met l yX8_lacking wsX8_lacking ({ frames := 4, cells := 0, slots := 0, locals := 120 }) (va_Pc [.ref (M 0), .int p0] (lt_M D yI yC yO (lt_Md yI yC M i a) sz)) (lt_Qi D (X8_lacking i a p0) (fun u => lt_Md yI yC M i u) (va_A (lt_Md yI yC M i a) sz)) 0 0 (va_A (lt_Md yI yC M i a) sz) := by
  refine Met.ofW (cc := cX8_lacking) (maxL := 4) (ret := (some .int)) (by decide) rfl ?_
  intro p e s m args below meth c s₁ B0 hml hv
  obtain ⟨rfl, hsz, hP, hK0, hD0⟩ := hv
  have hx := B0.exec
  have hb := B0.bytes
  have hret := B0.returns
  have hts := atoms_spec (ws := wsX8_lacking) B0.pre
  have hown : s.vm.findClass RX8 = some m.cls := findClass_of_methodNamed B0.named
  have hlocks := B0.notSynchronized
  have hK := hK0.1
  have hN := hK0.2
  subst hsz
  have hD := hD0.self (sz := s.heap.size)
  generalize hAe : va_A (lt_Md yI yC M i a) s.heap.size = A at hD ⊢
  have hA : ∀ q : Nat, s.heap.size ≤ q → A q := fun q h => by rw [← hAe]; exact Or.inr h
  have hS : va_S A s.heap s.heap [] := va_S.rf
  have hP : va_P D vwCl (lt_Md yI yC M i a) s.heap := hP
  have hD : va_D A (lt_Md yI yC M i a) := hD
  have hl := lv_entry ([.ref (M 0), .int p0]) (n := 4) (Nat.le_of_ble_eq_true rfl)
  rw [lg_entry_eq]
  generalize (lg_sl ([.ref (M 0), .int p0]) ++ List.replicate (4 - (lg_sl ([.ref (M 0), .int p0])).length) Slot.unset).toArray = ls at hl ⊢
  have hl : lv_has ls 4 [(0, .ref (M 0)), (1, .int p0)] := hl
  refine lv_iload_n hx hb dX8_lacking_0 rfl (lv_at hl 1 rfl) ?_
  refine lv_if_ge (tgt := 7) hx hb dX8_lacking_1 (by decide) (fun c_1 => ?_) (fun c_1 => ?_)
  · have hs := hs.1 c_1
    refine lv_aload_n hx hb dX8_lacking_7 rfl (lv_at hl 0 rfl) ?_
    have ho_8 := hs.1; have hs := hs.2
    have hPc := hP.sub (ws' := lt_Md yI yC M i a) [0, 1, 2, 3, 4, 5, 6, 7, 8] rfl
    have hDc := hD.sub (ws' := lt_Md yI yC M i a) [0, 1, 2, 3, 4, 5, 6, 7, 8] (by decide) rfl
    refine lt_cWv (wc := lt_Md yI yC M i a) (wr := []) (va_runV (As := []) (rest := []) ⟨hx, hb, hml, hown, hts⟩ (c_X8_guessesAll l D yI yC yO M i a _ ho_8) (cwV 0 hts gX8_lacking_X8_guessesAll rfl rfl rfl (by decide +kernel) ⟨Nat.le_of_ble_eq_true rfl, Nat.le_of_ble_eq_true rfl⟩) (lt_qV hK0 hPc hDc (va_recv hK hPc (ci := 8) (q0 := 0) rfl rfl)) rfl rfl hl.1 rfl (lv_room (Nat.le_of_ble_eq_true rfl)) dX8_lacking_8 ⟨Nat.zero_le _, Nat.zero_le _⟩) hP hD hS hA [0, 1, 2, 3, 4, 5, 6, 7, 8] [] rfl rfl (by decide) (by decide) (fun x_8 e_x_8 H locs hP hD hS => ?_)
    have hP := hP.sub (ws' := lt_Md yI yC M i x_8) [0, 1, 2, 3, 4, 5, 6, 7, 8] rfl
    have hD := hD.sub (ws' := lt_Md yI yC M i x_8) [0, 1, 2, 3, 4, 5, 6, 7, 8] (by decide) rfl
    have hs := hs x_8 e_x_8
    refine lv_iload_n hx hb dX8_lacking_11 rfl (lv_at hl 1 rfl) ?_
    refine lv_istore_n (lv' := [(2, .int p0), (0, .ref (M 0)), (1, .int p0)]) hx hb dX8_lacking_12 rfl hl (by decide) rfl (fun ls hl => ?_)
    refine lv_iconst (v := 0) hx hb dX8_lacking_13 (by decide) ?_
    refine lv_istore_n (lv' := [(3, .int 0), (2, .int p0), (0, .ref (M 0)), (1, .int p0)]) hx hb dX8_lacking_14 rfl hl (by decide) rfl (fun ls hl => ?_)
    refine lt_loop (σ := (Int32) × (Int32) × (Nat → Nat → Int32)) (fun fu (x : (Int32) × (Int32) × (Nat → Nat → Int32)) H locs ls => ∃ (v2 : Int32) (v3 : Int32) (a0 : Nat → Nat → Int32), x = (v2, v3, a0) ∧ lt_fu fu (2 * ((a0 0) 0)) (v3) ∧ X8_lacking_L15 i a p0 fu v2 v3 a0 = X8_lacking i a p0 ∧ S_X8_lacking_L15 i a p0 fu v2 v3 a0 ∧ va_P D vwCl (lt_Md yI yC M i a0) H ∧ va_D A (lt_Md yI yC M i a0) ∧ va_S A s.heap H locs ∧ lv_has ls 4 [(3, .int v3), (2, .int v2), (0, .ref (M 0)), (1, .int p0)]) ?_ ?_ (((2 * ((x_8 0) 0) : Int32).toInt - (0 : Int32).toInt).toNat + 1) (p0, 0, x_8) _ _ _ ⟨p0, 0, x_8, rfl, lt_fuI _ _, (by subst e_x_8; exact (Eq.symm (Eq.trans (if_pos c_1) rfl))), hs.1, hP, hD, hS, (lv_sub hl [0, 1, 2, 3] rfl)⟩
    · rintro x H locs ls ⟨_, _, _, -, hF, -⟩
      exact lt_fu0 hF
    · rintro fu ih x H locs ls ⟨v2, v3, a0, rfl, hF, hT, hs, hP, hD, hS, hl⟩
      refine lv_iload_n hx hb dX8_lacking_15 rfl (lv_at hl 0 rfl) ?_
      refine lv_iconst (v := 2) hx hb dX8_lacking_16 (by decide) ?_
      refine lv_aload_n hx hb dX8_lacking_17 rfl (lv_at hl 2 rfl) ?_
      refine va_get (D := D) (ci := 8) (v := .ref (M 1)) (C := RX8) (T := TX8) (N := 13) hx hb hts iw_X8_lacking_8 hown hK hP 0 rfl rfl 0 (by decide) (hts (.fieldLink RX8 7 "LeafTurnerModel" "now" "[I") (by decide +kernel)) (fun _ h9 => h9) rfl dX8_lacking_18 ?_
      refine lv_iconst (v := 0) hx hb dX8_lacking_21 (by decide) ?_
      refine va_iald hx hb hK hP 1 0 rfl rfl (i := 0) (vp_in_iff.mpr (by decide)) dX8_lacking_22 ?_
      refine lt_top (y := ((a0 0) 0)) rfl ?_
      refine lv_imul hx hb dX8_lacking_23 ?_
      refine lv_icmp_ge (tgt := 53) hx hb dX8_lacking_24 (by decide) (fun c_24 => ?_) (fun c_24 => ?_)
      · have hs := hs.1 c_24
        refine lv_bipush (v := (-5)) hx hb dX8_lacking_53 (by decide) ?_
        exact W.iret (v := (-5)) hx hb hret (fun t ht hW => ⟨⟨(-5), (a0), rfl, (Eq.trans (Eq.symm (Eq.trans (if_pos c_24) rfl)) hT), by rw [ht]; exact hP, hD⟩, hS.F ht⟩) hS.2.2 dX8_lacking_55
      · have hs := hs.2 c_24
        refine lv_aload_n hx hb dX8_lacking_27 rfl (lv_at hl 2 rfl) ?_
        refine va_get (D := D) (ci := 8) (v := .ref (M 7)) (C := RX8) (T := TX8) (N := 13) hx hb hts iw_X8_lacking_8 hown hK hP 0 rfl rfl 9 (by decide) (hts (.fieldLink RX8 29 "LeafTurnerModel" "chosen" "[I") (by decide +kernel)) (fun _ h9 => h9) rfl dX8_lacking_28 ?_
        refine lv_iload_n hx hb dX8_lacking_31 rfl (lv_at hl 0 rfl) ?_
        have ho_32 := hs.1; have hs := hs.2
        refine va_iald hx hb hK hP 7 0 rfl rfl (i := v3) (ho_32) dX8_lacking_32 ?_
        refine lv_bipush (v := (-5)) hx hb dX8_lacking_33 (by decide) ?_
        refine lv_icmp_ne (tgt := 47) hx hb dX8_lacking_35 (by decide) (fun c_35 => ?_) (fun c_35 => ?_)
        · have hs := hs.2 c_35
          refine lv_iinc (v := (v3 + 1)) (lv' := [(3, .int (v3 + 1)), (2, .int v2), (0, .ref (M 0)), (1, .int p0)]) hx hb dX8_lacking_47 hl (k := 0) rfl (rfl) (by decide) rfl (fun ls hl => ?_)
          refine lv_goto (tgt := 15) hx hb dX8_lacking_50 (by decide) ?_
          exact ih (v2, (v3 + 1), a0) _ _ _ ⟨v2, (v3 + 1), a0, rfl, lt_fuS hF (lt_nle c_24), (Eq.trans (Eq.symm (Eq.trans (if_neg c_24) (Eq.trans (if_neg c_35) rfl))) hT), hs.1, hP, hD, hS, lv_sub hl [0, 1, 2, 3] rfl⟩
        · have hs := hs.1 c_35
          refine lv_iload_n hx hb dX8_lacking_38 rfl (lv_at hl 1 rfl) ?_
          refine lv_if_ne (tgt := 44) hx hb dX8_lacking_39 (by decide) (fun c_39 => ?_) (fun c_39 => ?_)
          · have hs := hs.2 c_39
            refine lv_iinc (v := (v2 + (-1))) (lv' := [(2, .int (v2 + (-1))), (3, .int v3), (0, .ref (M 0)), (1, .int p0)]) hx hb dX8_lacking_44 hl (k := 1) rfl (rfl) (by decide) rfl (fun ls hl => ?_)
            refine lv_iinc (v := (v3 + 1)) (lv' := [(3, .int (v3 + 1)), (2, .int (v2 + (-1))), (0, .ref (M 0)), (1, .int p0)]) hx hb dX8_lacking_47 hl (k := 1) rfl (rfl) (by decide) rfl (fun ls hl => ?_)
            refine lv_goto (tgt := 15) hx hb dX8_lacking_50 (by decide) ?_
            exact ih ((v2 + (-1)), (v3 + 1), a0) _ _ _ ⟨(v2 + (-1)), (v3 + 1), a0, rfl, lt_fuS hF (lt_nle c_24), (Eq.trans (Eq.symm (Eq.trans (if_neg c_24) (Eq.trans (if_pos c_35) (Eq.trans (if_neg c_39) rfl)))) hT), hs.1, hP, hD, hS, lv_sub hl [0, 1, 2, 3] rfl⟩
          · have hs := hs.1 c_39
            refine lv_iload_n hx hb dX8_lacking_42 rfl (lv_at hl 0 rfl) ?_
            exact W.iret (v := v3) hx hb hret (fun t ht hW => ⟨⟨v3, (a0), rfl, (Eq.trans (Eq.symm (Eq.trans (if_neg c_24) (Eq.trans (if_pos c_35) (Eq.trans (if_pos c_39) rfl)))) hT), by rw [ht]; exact hP, hD⟩, hS.F ht⟩) hS.2.2 dX8_lacking_43
  · have hs := hs.2 c_1
    refine lv_bipush (v := (-2)) hx hb dX8_lacking_4 (by decide) ?_
    exact W.iret (v := (-2)) hx hb hret (fun t ht hW => ⟨⟨(-2), (a), rfl, (Eq.symm (Eq.trans (if_neg c_1) rfl)), by rw [ht]; exact hP, hD⟩, hS.F ht⟩) hS.2.2 dX8_lacking_6

def X8_pages_L8 (i : Nat → Int32) (a : Nat → Nat → Int32) (p0 : Int32) : Nat → (Int32) → (Int32) → (Nat → Nat → Int32) → Int32 × ((Nat → Nat → Int32))
  | 0, _, _, _ => (0, (a))
  | fu + 1, v2, v3, a0 =>
    if (2 * ((a0 0) 0)) ≤ v3 then
      (v2, (a0))
    else
      if p0 = 3 then
        if ((a0 6) v3.toNatClampNeg) = (-5) then
          X8_pages_L8 i a p0 fu (v2 + 1) (v3 + 1) a0
        else
          X8_pages_L8 i a p0 fu (v2 + 0) (v3 + 1) a0
      else
        let r_46 := X8_isDoubtful i a0 v3
        if r_46 = 0 then
          X8_pages_L8 i a p0 fu (v2 + 0) (v3 + 1) a0
        else
          X8_pages_L8 i a p0 fu (v2 + 1) (v3 + 1) a0
def S_X8_pages_L8 (i : Nat → Int32) (a : Nat → Nat → Int32) (p0 : Int32) : Nat → (Int32) → (Int32) → (Nat → Nat → Int32) → Prop
  | 0, _, _, _ => True
  | fu + 1, v2, v3, a0 =>
    ((2 * ((a0 0) 0)) ≤ v3 →
      True) ∧
    (¬ ((2 * ((a0 0) 0)) ≤ v3) →
      (p0 = 3 →
        (vp_in v3 60) ∧
        (((a0 6) v3.toNatClampNeg) = (-5) →
          (S_X8_pages_L8 i a p0 fu (v2 + 1) (v3 + 1) a0) ∧
          True) ∧
        (¬ (((a0 6) v3.toNatClampNeg) = (-5)) →
          (S_X8_pages_L8 i a p0 fu (v2 + 0) (v3 + 1) a0) ∧
          True)) ∧
      (¬ (p0 = 3) →
        (S_X8_isDoubtful i a0 v3) ∧
        ∀ r_46, r_46 = X8_isDoubtful i a0 v3 →
        (r_46 = 0 →
          (S_X8_pages_L8 i a p0 fu (v2 + 0) (v3 + 1) a0) ∧
          True) ∧
        (¬ (r_46 = 0) →
          (S_X8_pages_L8 i a p0 fu (v2 + 1) (v3 + 1) a0) ∧
          True)))
def X8_pages (i : Nat → Int32) (a : Nat → Nat → Int32) (p0 : Int32) : Int32 × ((Nat → Nat → Int32)) :=
  let x_1 := X8_guessesAll i a
  X8_pages_L8 i a p0 (((2 * ((x_1 0) 0) : Int32).toInt - (0 : Int32).toInt).toNat + 1) 0 0 x_1
def S_X8_pages (i : Nat → Int32) (a : Nat → Nat → Int32) (p0 : Int32) : Prop :=
  (S_X8_guessesAll i a) ∧
  ∀ x_1, x_1 = X8_guessesAll i a →
  (S_X8_pages_L8 i a p0 (((2 * ((x_1 0) 0) : Int32).toInt - (0 : Int32).toInt).toNat + 1) 0 0 x_1) ∧
  True
theorem iw_X8_pages_8 : ∀ w ∈ wsX80, w ∈ wsX8_pages := by decide +kernel
set_option maxHeartbeats 4000000 in
set_option maxRecDepth 100000 in
theorem c_X8_pages (l : Launch) (D : va_G) (yI yC yO : ClassId) (M : Nat → Nat) (i : Nat → Int32) (a : Nat → Nat → Int32) (p0 : Int32) (sz : Nat) (hs : S_X8_pages i a p0) : Met l yX8_pages wsX8_pages ({ frames := 4, cells := 0, slots := 0, locals := 120 }) (va_Pc [.ref (M 0), .int p0] (lt_M D yI yC yO (lt_Md yI yC M i a) sz)) (lt_Qi D (X8_pages i a p0) (fun u => lt_Md yI yC M i u) (va_A (lt_Md yI yC M i a) sz)) 0 0 (va_A (lt_Md yI yC M i a) sz) := by
  refine Met.ofW (cc := cX8_pages) (maxL := 5) (ret := (some .int)) (by decide) rfl ?_
  intro p e s m args below meth c s₁ B0 hml hv
  obtain ⟨rfl, hsz, hP, hK0, hD0⟩ := hv
  have hx := B0.exec
  have hb := B0.bytes
  have hret := B0.returns
  have hts := atoms_spec (ws := wsX8_pages) B0.pre
  have hown : s.vm.findClass RX8 = some m.cls := findClass_of_methodNamed B0.named
  have hlocks := B0.notSynchronized
  have hK := hK0.1
  have hN := hK0.2
  subst hsz
  have hD := hD0.self (sz := s.heap.size)
  generalize hAe : va_A (lt_Md yI yC M i a) s.heap.size = A at hD ⊢
  have hA : ∀ q : Nat, s.heap.size ≤ q → A q := fun q h => by rw [← hAe]; exact Or.inr h
  have hS : va_S A s.heap s.heap [] := va_S.rf
  have hP : va_P D vwCl (lt_Md yI yC M i a) s.heap := hP
  have hD : va_D A (lt_Md yI yC M i a) := hD
  have hl := lv_entry ([.ref (M 0), .int p0]) (n := 5) (Nat.le_of_ble_eq_true rfl)
  rw [lg_entry_eq]
  generalize (lg_sl ([.ref (M 0), .int p0]) ++ List.replicate (5 - (lg_sl ([.ref (M 0), .int p0])).length) Slot.unset).toArray = ls at hl ⊢
  have hl : lv_has ls 5 [(0, .ref (M 0)), (1, .int p0)] := hl
  refine lv_aload_n hx hb dX8_pages_0 rfl (lv_at hl 0 rfl) ?_
  have ho_1 := hs.1; have hs := hs.2
  have hPc := hP.sub (ws' := lt_Md yI yC M i a) [0, 1, 2, 3, 4, 5, 6, 7, 8] rfl
  have hDc := hD.sub (ws' := lt_Md yI yC M i a) [0, 1, 2, 3, 4, 5, 6, 7, 8] (by decide) rfl
  refine lt_cWv (wc := lt_Md yI yC M i a) (wr := []) (va_runV (As := []) (rest := []) ⟨hx, hb, hml, hown, hts⟩ (c_X8_guessesAll l D yI yC yO M i a _ ho_1) (cwV 0 hts gX8_pages_X8_guessesAll rfl rfl rfl (by decide +kernel) ⟨Nat.le_of_ble_eq_true rfl, Nat.le_of_ble_eq_true rfl⟩) (lt_qV hK0 hPc hDc (va_recv hK hPc (ci := 8) (q0 := 0) rfl rfl)) rfl rfl hl.1 rfl (lv_room (Nat.le_of_ble_eq_true rfl)) dX8_pages_1 ⟨Nat.zero_le _, Nat.zero_le _⟩) hP hD hS hA [0, 1, 2, 3, 4, 5, 6, 7, 8] [] rfl rfl (by decide) (by decide) (fun x_1 e_x_1 H locs hP hD hS => ?_)
  have hP := hP.sub (ws' := lt_Md yI yC M i x_1) [0, 1, 2, 3, 4, 5, 6, 7, 8] rfl
  have hD := hD.sub (ws' := lt_Md yI yC M i x_1) [0, 1, 2, 3, 4, 5, 6, 7, 8] (by decide) rfl
  have hs := hs x_1 e_x_1
  refine lv_iconst (v := 0) hx hb dX8_pages_4 (by decide) ?_
  refine lv_istore_n (lv' := [(2, .int 0), (0, .ref (M 0)), (1, .int p0)]) hx hb dX8_pages_5 rfl hl (by decide) rfl (fun ls hl => ?_)
  refine lv_iconst (v := 0) hx hb dX8_pages_6 (by decide) ?_
  refine lv_istore_n (lv' := [(3, .int 0), (2, .int 0), (0, .ref (M 0)), (1, .int p0)]) hx hb dX8_pages_7 rfl hl (by decide) rfl (fun ls hl => ?_)
  refine lt_loop (σ := (Int32) × (Int32) × (Nat → Nat → Int32)) (fun fu (x : (Int32) × (Int32) × (Nat → Nat → Int32)) H locs ls => ∃ (v2 : Int32) (v3 : Int32) (a0 : Nat → Nat → Int32), x = (v2, v3, a0) ∧ lt_fu fu (2 * ((a0 0) 0)) (v3) ∧ X8_pages_L8 i a p0 fu v2 v3 a0 = X8_pages i a p0 ∧ S_X8_pages_L8 i a p0 fu v2 v3 a0 ∧ va_P D vwCl (lt_Md yI yC M i a0) H ∧ va_D A (lt_Md yI yC M i a0) ∧ va_S A s.heap H locs ∧ lv_has ls 5 [(3, .int v3), (2, .int v2), (0, .ref (M 0)), (1, .int p0)]) ?_ ?_ (((2 * ((x_1 0) 0) : Int32).toInt - (0 : Int32).toInt).toNat + 1) (0, 0, x_1) _ _ _ ⟨0, 0, x_1, rfl, lt_fuI _ _, (by subst e_x_1; exact (Eq.symm rfl)), hs.1, hP, hD, hS, (lv_sub hl [0, 1, 2, 3] rfl)⟩
  · rintro x H locs ls ⟨_, _, _, -, hF, -⟩
    exact lt_fu0 hF
  · rintro fu ih x H locs ls ⟨v2, v3, a0, rfl, hF, hT, hs, hP, hD, hS, hl⟩
    refine lv_iload_n hx hb dX8_pages_8 rfl (lv_at hl 0 rfl) ?_
    refine lv_iconst (v := 2) hx hb dX8_pages_9 (by decide) ?_
    refine lv_aload_n hx hb dX8_pages_10 rfl (lv_at hl 2 rfl) ?_
    refine va_get (D := D) (ci := 8) (v := .ref (M 1)) (C := RX8) (T := TX8) (N := 13) hx hb hts iw_X8_pages_8 hown hK hP 0 rfl rfl 0 (by decide) (hts (.fieldLink RX8 7 "LeafTurnerModel" "now" "[I") (by decide +kernel)) (fun _ h9 => h9) rfl dX8_pages_11 ?_
    refine lv_iconst (v := 0) hx hb dX8_pages_14 (by decide) ?_
    refine va_iald hx hb hK hP 1 0 rfl rfl (i := 0) (vp_in_iff.mpr (by decide)) dX8_pages_15 ?_
    refine lt_top (y := ((a0 0) 0)) rfl ?_
    refine lv_imul hx hb dX8_pages_16 ?_
    refine lv_icmp_ge (tgt := 70) hx hb dX8_pages_17 (by decide) (fun c_17 => ?_) (fun c_17 => ?_)
    · have hs := hs.1 c_17
      refine lv_iload_n hx hb dX8_pages_70 rfl (lv_at hl 1 rfl) ?_
      exact W.iret (v := v2) hx hb hret (fun t ht hW => ⟨⟨v2, (a0), rfl, (Eq.trans (Eq.symm (Eq.trans (if_pos c_17) rfl)) hT), by rw [ht]; exact hP, hD⟩, hS.F ht⟩) hS.2.2 dX8_pages_71
    · have hs := hs.2 c_17
      refine lv_iload_n hx hb dX8_pages_20 rfl (lv_at hl 3 rfl) ?_
      refine lv_iconst (v := 3) hx hb dX8_pages_21 (by decide) ?_
      refine lv_icmp_ne (tgt := 44) hx hb dX8_pages_22 (by decide) (fun c_22 => ?_) (fun c_22 => ?_)
      · have hs := hs.2 c_22
        refine lv_aload_n hx hb dX8_pages_44 rfl (lv_at hl 2 rfl) ?_
        refine lv_iload_n hx hb dX8_pages_45 rfl (lv_at hl 0 rfl) ?_
        have ho_46 := hs.1; have hs := hs.2
        have hPc := hP.sub (ws' := lt_Md yI yC M i a0) [0, 1, 2, 3, 4, 5, 6, 7, 8] rfl
        refine lt_cR (va_runV (As := [.int v3]) (rest := []) ⟨hx, hb, hml, hown, hts⟩ (c_X8_isDoubtful l D yI yC yO M i a0 v3 ho_46) (cwV 1 hts gX8_pages_X8_isDoubtful rfl rfl rfl (by decide +kernel) ⟨Nat.le_of_ble_eq_true rfl, Nat.le_of_ble_eq_true rfl⟩) (lt_pV hK0 hPc (va_recv hK hPc (ci := 8) (q0 := 0) rfl rfl)) rfl rfl hl.1 rfl (lv_room (Nat.le_of_ble_eq_true rfl)) dX8_pages_46 ⟨Nat.zero_le _, Nat.zero_le _⟩) (fun r_46 e_r_46 => ?_)
        have hs := hs r_46 e_r_46
        refine lv_istore (lv' := [(4, .int r_46), (3, .int v3), (2, .int v2), (0, .ref (M 0)), (1, .int p0)]) hx hb dX8_pages_49 hl (by decide) rfl (fun ls hl => ?_)
        refine lv_iload_n hx hb dX8_pages_51 rfl (lv_at hl 2 rfl) ?_
        refine lv_iload hx hb dX8_pages_52 (lv_at hl 0 rfl) ?_
        refine lv_if_eq (tgt := 61) hx hb dX8_pages_54 (by decide) (fun c_54 => ?_) (fun c_54 => ?_)
        · have hs := hs.1 c_54
          refine lv_iconst (v := 0) hx hb dX8_pages_61 (by decide) ?_
          refine lv_iadd hx hb dX8_pages_62 ?_
          refine lv_istore_n (lv' := [(2, .int (v2 + 0)), (4, .int r_46), (3, .int v3), (0, .ref (M 0)), (1, .int p0)]) hx hb dX8_pages_63 rfl hl (by decide) rfl (fun ls hl => ?_)
          refine lv_iinc (v := (v3 + 1)) (lv' := [(3, .int (v3 + 1)), (2, .int (v2 + 0)), (4, .int r_46), (0, .ref (M 0)), (1, .int p0)]) hx hb dX8_pages_64 hl (k := 2) rfl (rfl) (by decide) rfl (fun ls hl => ?_)
          refine lv_goto (tgt := 8) hx hb dX8_pages_67 (by decide) ?_
          exact ih ((v2 + 0), (v3 + 1), a0) _ _ _ ⟨(v2 + 0), (v3 + 1), a0, rfl, lt_fuS hF (lt_nle c_17), (by subst e_r_46; exact (Eq.trans (Eq.symm (Eq.trans (if_neg c_17) (Eq.trans (if_neg c_22) (Eq.trans (if_pos c_54) rfl)))) hT)), hs.1, hP, hD, hS, lv_sub hl [0, 1, 3, 4] rfl⟩
        · have hs := hs.2 c_54
          refine lv_iconst (v := 1) hx hb dX8_pages_57 (by decide) ?_
          refine lv_goto (tgt := 62) hx hb dX8_pages_58 (by decide) ?_
          refine lv_iadd hx hb dX8_pages_62 ?_
          refine lv_istore_n (lv' := [(2, .int (v2 + 1)), (4, .int r_46), (3, .int v3), (0, .ref (M 0)), (1, .int p0)]) hx hb dX8_pages_63 rfl hl (by decide) rfl (fun ls hl => ?_)
          refine lv_iinc (v := (v3 + 1)) (lv' := [(3, .int (v3 + 1)), (2, .int (v2 + 1)), (4, .int r_46), (0, .ref (M 0)), (1, .int p0)]) hx hb dX8_pages_64 hl (k := 2) rfl (rfl) (by decide) rfl (fun ls hl => ?_)
          refine lv_goto (tgt := 8) hx hb dX8_pages_67 (by decide) ?_
          exact ih ((v2 + 1), (v3 + 1), a0) _ _ _ ⟨(v2 + 1), (v3 + 1), a0, rfl, lt_fuS hF (lt_nle c_17), (by subst e_r_46; exact (Eq.trans (Eq.symm (Eq.trans (if_neg c_17) (Eq.trans (if_neg c_22) (Eq.trans (if_neg c_54) rfl)))) hT)), hs.1, hP, hD, hS, lv_sub hl [0, 1, 3, 4] rfl⟩
      · have hs := hs.1 c_22
        refine lv_aload_n hx hb dX8_pages_25 rfl (lv_at hl 2 rfl) ?_
        refine va_get (D := D) (ci := 8) (v := .ref (M 7)) (C := RX8) (T := TX8) (N := 13) hx hb hts iw_X8_pages_8 hown hK hP 0 rfl rfl 9 (by decide) (hts (.fieldLink RX8 29 "LeafTurnerModel" "chosen" "[I") (by decide +kernel)) (fun _ h9 => h9) rfl dX8_pages_26 ?_
        refine lv_iload_n hx hb dX8_pages_29 rfl (lv_at hl 0 rfl) ?_
        have ho_30 := hs.1; have hs := hs.2
        refine va_iald hx hb hK hP 7 0 rfl rfl (i := v3) (ho_30) dX8_pages_30 ?_
        refine lv_bipush (v := (-5)) hx hb dX8_pages_31 (by decide) ?_
        refine lv_icmp_ne (tgt := 40) hx hb dX8_pages_33 (by decide) (fun c_33 => ?_) (fun c_33 => ?_)
        · have hs := hs.2 c_33
          refine lv_iconst (v := 0) hx hb dX8_pages_40 (by decide) ?_
          refine lv_goto (tgt := 49) hx hb dX8_pages_41 (by decide) ?_
          refine lv_istore (lv' := [(4, .int 0), (3, .int v3), (2, .int v2), (0, .ref (M 0)), (1, .int p0)]) hx hb dX8_pages_49 hl (by decide) rfl (fun ls hl => ?_)
          refine lv_iload_n hx hb dX8_pages_51 rfl (lv_at hl 2 rfl) ?_
          refine lv_iload hx hb dX8_pages_52 (lv_at hl 0 rfl) ?_
          refine lv_if_eq (tgt := 61) hx hb dX8_pages_54 (by decide) (fun _ => ?_) (fun c => absurd c (by decide))
          refine lv_iconst (v := 0) hx hb dX8_pages_61 (by decide) ?_
          refine lv_iadd hx hb dX8_pages_62 ?_
          refine lv_istore_n (lv' := [(2, .int (v2 + 0)), (4, .int 0), (3, .int v3), (0, .ref (M 0)), (1, .int p0)]) hx hb dX8_pages_63 rfl hl (by decide) rfl (fun ls hl => ?_)
          refine lv_iinc (v := (v3 + 1)) (lv' := [(3, .int (v3 + 1)), (2, .int (v2 + 0)), (4, .int 0), (0, .ref (M 0)), (1, .int p0)]) hx hb dX8_pages_64 hl (k := 2) rfl (rfl) (by decide) rfl (fun ls hl => ?_)
          refine lv_goto (tgt := 8) hx hb dX8_pages_67 (by decide) ?_
          exact ih ((v2 + 0), (v3 + 1), a0) _ _ _ ⟨(v2 + 0), (v3 + 1), a0, rfl, lt_fuS hF (lt_nle c_17), (Eq.trans (Eq.symm (Eq.trans (if_neg c_17) (Eq.trans (if_pos c_22) (Eq.trans (if_neg c_33) rfl)))) hT), hs.1, hP, hD, hS, lv_sub hl [0, 1, 3, 4] rfl⟩
        · have hs := hs.1 c_33
          refine lv_iconst (v := 1) hx hb dX8_pages_36 (by decide) ?_
          refine lv_goto (tgt := 49) hx hb dX8_pages_37 (by decide) ?_
          refine lv_istore (lv' := [(4, .int 1), (3, .int v3), (2, .int v2), (0, .ref (M 0)), (1, .int p0)]) hx hb dX8_pages_49 hl (by decide) rfl (fun ls hl => ?_)
          refine lv_iload_n hx hb dX8_pages_51 rfl (lv_at hl 2 rfl) ?_
          refine lv_iload hx hb dX8_pages_52 (lv_at hl 0 rfl) ?_
          refine lv_if_eq (tgt := 61) hx hb dX8_pages_54 (by decide) (fun c => absurd c (by decide)) (fun _ => ?_)
          refine lv_iconst (v := 1) hx hb dX8_pages_57 (by decide) ?_
          refine lv_goto (tgt := 62) hx hb dX8_pages_58 (by decide) ?_
          refine lv_iadd hx hb dX8_pages_62 ?_
          refine lv_istore_n (lv' := [(2, .int (v2 + 1)), (4, .int 1), (3, .int v3), (0, .ref (M 0)), (1, .int p0)]) hx hb dX8_pages_63 rfl hl (by decide) rfl (fun ls hl => ?_)
          refine lv_iinc (v := (v3 + 1)) (lv' := [(3, .int (v3 + 1)), (2, .int (v2 + 1)), (4, .int 1), (0, .ref (M 0)), (1, .int p0)]) hx hb dX8_pages_64 hl (k := 2) rfl (rfl) (by decide) rfl (fun ls hl => ?_)
          refine lv_goto (tgt := 8) hx hb dX8_pages_67 (by decide) ?_
          exact ih ((v2 + 1), (v3 + 1), a0) _ _ _ ⟨(v2 + 1), (v3 + 1), a0, rfl, lt_fuS hF (lt_nle c_17), (Eq.trans (Eq.symm (Eq.trans (if_neg c_17) (Eq.trans (if_pos c_22) (Eq.trans (if_pos c_33) rfl)))) hT), hs.1, hP, hD, hS, lv_sub hl [0, 1, 3, 4] rfl⟩

def X8_pictures_L8 (i : Nat → Int32) (a : Nat → Nat → Int32) (p0 : Int32) : Nat → (Int32) → (Int32) → (Nat → Nat → Int32) → Int32 × ((Nat → Nat → Int32))
  | 0, _, _, _ => (0, (a))
  | fu + 1, v2, v3, a0 =>
    if ((a0 0) 2) ≤ v3 then
      (v2, (a0))
    else
      if p0 = 5 then
        let r_25 := X8_isSpare i a0 v3
        if r_25 = 0 then
          X8_pictures_L8 i a p0 fu (v2 + 0) (v3 + 1) a0
        else
          X8_pictures_L8 i a p0 fu (v2 + 1) (v3 + 1) a0
      else
        if ((a0 5) v3.toNatClampNeg) = (-5) then
          X8_pictures_L8 i a p0 fu (v2 + 1) (v3 + 1) a0
        else
          X8_pictures_L8 i a p0 fu (v2 + 0) (v3 + 1) a0
def S_X8_pictures_L8 (i : Nat → Int32) (a : Nat → Nat → Int32) (p0 : Int32) : Nat → (Int32) → (Int32) → (Nat → Nat → Int32) → Prop
  | 0, _, _, _ => True
  | fu + 1, v2, v3, a0 =>
    (((a0 0) 2) ≤ v3 →
      True) ∧
    (¬ (((a0 0) 2) ≤ v3) →
      (p0 = 5 →
        (S_X8_isSpare i a0 v3) ∧
        ∀ r_25, r_25 = X8_isSpare i a0 v3 →
        (r_25 = 0 →
          (S_X8_pictures_L8 i a p0 fu (v2 + 0) (v3 + 1) a0) ∧
          True) ∧
        (¬ (r_25 = 0) →
          (S_X8_pictures_L8 i a p0 fu (v2 + 1) (v3 + 1) a0) ∧
          True)) ∧
      (¬ (p0 = 5) →
        (vp_in v3 80) ∧
        (((a0 5) v3.toNatClampNeg) = (-5) →
          (S_X8_pictures_L8 i a p0 fu (v2 + 1) (v3 + 1) a0) ∧
          True) ∧
        (¬ (((a0 5) v3.toNatClampNeg) = (-5)) →
          (S_X8_pictures_L8 i a p0 fu (v2 + 0) (v3 + 1) a0) ∧
          True)))
def X8_pictures (i : Nat → Int32) (a : Nat → Nat → Int32) (p0 : Int32) : Int32 × ((Nat → Nat → Int32)) :=
  let x_1 := X8_guessesAll i a
  X8_pictures_L8 i a p0 ((((x_1 0) 2 : Int32).toInt - (0 : Int32).toInt).toNat + 1) 0 0 x_1
def S_X8_pictures (i : Nat → Int32) (a : Nat → Nat → Int32) (p0 : Int32) : Prop :=
  (S_X8_guessesAll i a) ∧
  ∀ x_1, x_1 = X8_guessesAll i a →
  (S_X8_pictures_L8 i a p0 ((((x_1 0) 2 : Int32).toInt - (0 : Int32).toInt).toNat + 1) 0 0 x_1) ∧
  True
theorem iw_X8_pictures_8 : ∀ w ∈ wsX80, w ∈ wsX8_pictures := by decide +kernel
set_option maxHeartbeats 4000000 in
set_option maxRecDepth 100000 in
theorem c_X8_pictures (l : Launch) (D : va_G) (yI yC yO : ClassId) (M : Nat → Nat) (i : Nat → Int32) (a : Nat → Nat → Int32) (p0 : Int32) (sz : Nat) (hs : S_X8_pictures i a p0) : Met l yX8_pictures wsX8_pictures ({ frames := 4, cells := 0, slots := 0, locals := 120 }) (va_Pc [.ref (M 0), .int p0] (lt_M D yI yC yO (lt_Md yI yC M i a) sz)) (lt_Qi D (X8_pictures i a p0) (fun u => lt_Md yI yC M i u) (va_A (lt_Md yI yC M i a) sz)) 0 0 (va_A (lt_Md yI yC M i a) sz) := by
  refine Met.ofW (cc := cX8_pictures) (maxL := 5) (ret := (some .int)) (by decide) rfl ?_
  intro p e s m args below meth c s₁ B0 hml hv
  obtain ⟨rfl, hsz, hP, hK0, hD0⟩ := hv
  have hx := B0.exec
  have hb := B0.bytes
  have hret := B0.returns
  have hts := atoms_spec (ws := wsX8_pictures) B0.pre
  have hown : s.vm.findClass RX8 = some m.cls := findClass_of_methodNamed B0.named
  have hlocks := B0.notSynchronized
  have hK := hK0.1
  have hN := hK0.2
  subst hsz
  have hD := hD0.self (sz := s.heap.size)
  generalize hAe : va_A (lt_Md yI yC M i a) s.heap.size = A at hD ⊢
  have hA : ∀ q : Nat, s.heap.size ≤ q → A q := fun q h => by rw [← hAe]; exact Or.inr h
  have hS : va_S A s.heap s.heap [] := va_S.rf
  have hP : va_P D vwCl (lt_Md yI yC M i a) s.heap := hP
  have hD : va_D A (lt_Md yI yC M i a) := hD
  have hl := lv_entry ([.ref (M 0), .int p0]) (n := 5) (Nat.le_of_ble_eq_true rfl)
  rw [lg_entry_eq]
  generalize (lg_sl ([.ref (M 0), .int p0]) ++ List.replicate (5 - (lg_sl ([.ref (M 0), .int p0])).length) Slot.unset).toArray = ls at hl ⊢
  have hl : lv_has ls 5 [(0, .ref (M 0)), (1, .int p0)] := hl
  refine lv_aload_n hx hb dX8_pictures_0 rfl (lv_at hl 0 rfl) ?_
  have ho_1 := hs.1; have hs := hs.2
  have hPc := hP.sub (ws' := lt_Md yI yC M i a) [0, 1, 2, 3, 4, 5, 6, 7, 8] rfl
  have hDc := hD.sub (ws' := lt_Md yI yC M i a) [0, 1, 2, 3, 4, 5, 6, 7, 8] (by decide) rfl
  refine lt_cWv (wc := lt_Md yI yC M i a) (wr := []) (va_runV (As := []) (rest := []) ⟨hx, hb, hml, hown, hts⟩ (c_X8_guessesAll l D yI yC yO M i a _ ho_1) (cwV 0 hts gX8_pictures_X8_guessesAll rfl rfl rfl (by decide +kernel) ⟨Nat.le_of_ble_eq_true rfl, Nat.le_of_ble_eq_true rfl⟩) (lt_qV hK0 hPc hDc (va_recv hK hPc (ci := 8) (q0 := 0) rfl rfl)) rfl rfl hl.1 rfl (lv_room (Nat.le_of_ble_eq_true rfl)) dX8_pictures_1 ⟨Nat.zero_le _, Nat.zero_le _⟩) hP hD hS hA [0, 1, 2, 3, 4, 5, 6, 7, 8] [] rfl rfl (by decide) (by decide) (fun x_1 e_x_1 H locs hP hD hS => ?_)
  have hP := hP.sub (ws' := lt_Md yI yC M i x_1) [0, 1, 2, 3, 4, 5, 6, 7, 8] rfl
  have hD := hD.sub (ws' := lt_Md yI yC M i x_1) [0, 1, 2, 3, 4, 5, 6, 7, 8] (by decide) rfl
  have hs := hs x_1 e_x_1
  refine lv_iconst (v := 0) hx hb dX8_pictures_4 (by decide) ?_
  refine lv_istore_n (lv' := [(2, .int 0), (0, .ref (M 0)), (1, .int p0)]) hx hb dX8_pictures_5 rfl hl (by decide) rfl (fun ls hl => ?_)
  refine lv_iconst (v := 0) hx hb dX8_pictures_6 (by decide) ?_
  refine lv_istore_n (lv' := [(3, .int 0), (2, .int 0), (0, .ref (M 0)), (1, .int p0)]) hx hb dX8_pictures_7 rfl hl (by decide) rfl (fun ls hl => ?_)
  refine lt_loop (σ := (Int32) × (Int32) × (Nat → Nat → Int32)) (fun fu (x : (Int32) × (Int32) × (Nat → Nat → Int32)) H locs ls => ∃ (v2 : Int32) (v3 : Int32) (a0 : Nat → Nat → Int32), x = (v2, v3, a0) ∧ lt_fu fu ((a0 0) 2) (v3) ∧ X8_pictures_L8 i a p0 fu v2 v3 a0 = X8_pictures i a p0 ∧ S_X8_pictures_L8 i a p0 fu v2 v3 a0 ∧ va_P D vwCl (lt_Md yI yC M i a0) H ∧ va_D A (lt_Md yI yC M i a0) ∧ va_S A s.heap H locs ∧ lv_has ls 5 [(3, .int v3), (2, .int v2), (0, .ref (M 0)), (1, .int p0)]) ?_ ?_ ((((x_1 0) 2 : Int32).toInt - (0 : Int32).toInt).toNat + 1) (0, 0, x_1) _ _ _ ⟨0, 0, x_1, rfl, lt_fuI _ _, (by subst e_x_1; exact (Eq.symm rfl)), hs.1, hP, hD, hS, (lv_sub hl [0, 1, 2, 3] rfl)⟩
  · rintro x H locs ls ⟨_, _, _, -, hF, -⟩
    exact lt_fu0 hF
  · rintro fu ih x H locs ls ⟨v2, v3, a0, rfl, hF, hT, hs, hP, hD, hS, hl⟩
    refine lv_iload_n hx hb dX8_pictures_8 rfl (lv_at hl 0 rfl) ?_
    refine lv_aload_n hx hb dX8_pictures_9 rfl (lv_at hl 2 rfl) ?_
    refine va_get (D := D) (ci := 8) (v := .ref (M 1)) (C := RX8) (T := TX8) (N := 13) hx hb hts iw_X8_pictures_8 hown hK hP 0 rfl rfl 0 (by decide) (hts (.fieldLink RX8 7 "LeafTurnerModel" "now" "[I") (by decide +kernel)) (fun _ h9 => h9) rfl dX8_pictures_10 ?_
    refine lv_iconst (v := 2) hx hb dX8_pictures_13 (by decide) ?_
    refine va_iald hx hb hK hP 1 0 rfl rfl (i := 2) (vp_in_iff.mpr (by decide)) dX8_pictures_14 ?_
    refine lt_top (y := ((a0 0) 2)) rfl ?_
    refine lv_icmp_ge (tgt := 68) hx hb dX8_pictures_15 (by decide) (fun c_15 => ?_) (fun c_15 => ?_)
    · have hs := hs.1 c_15
      refine lv_iload_n hx hb dX8_pictures_68 rfl (lv_at hl 1 rfl) ?_
      exact W.iret (v := v2) hx hb hret (fun t ht hW => ⟨⟨v2, (a0), rfl, (Eq.trans (Eq.symm (Eq.trans (if_pos c_15) rfl)) hT), by rw [ht]; exact hP, hD⟩, hS.F ht⟩) hS.2.2 dX8_pictures_69
    · have hs := hs.2 c_15
      refine lv_iload_n hx hb dX8_pictures_18 rfl (lv_at hl 3 rfl) ?_
      refine lv_iconst (v := 5) hx hb dX8_pictures_19 (by decide) ?_
      refine lv_icmp_ne (tgt := 31) hx hb dX8_pictures_20 (by decide) (fun c_20 => ?_) (fun c_20 => ?_)
      · have hs := hs.2 c_20
        refine lv_aload_n hx hb dX8_pictures_31 rfl (lv_at hl 2 rfl) ?_
        refine va_get (D := D) (ci := 8) (v := .ref (M 6)) (C := RX8) (T := TX8) (N := 13) hx hb hts iw_X8_pictures_8 hown hK hP 0 rfl rfl 8 (by decide) (hts (.fieldLink RX8 26 "LeafTurnerModel" "guesses" "[I") (by decide +kernel)) (fun _ h9 => h9) rfl dX8_pictures_32 ?_
        refine lv_iload_n hx hb dX8_pictures_35 rfl (lv_at hl 0 rfl) ?_
        have ho_36 := hs.1; have hs := hs.2
        refine va_iald hx hb hK hP 6 0 rfl rfl (i := v3) (ho_36) dX8_pictures_36 ?_
        refine lv_bipush (v := (-5)) hx hb dX8_pictures_37 (by decide) ?_
        refine lv_icmp_ne (tgt := 46) hx hb dX8_pictures_39 (by decide) (fun c_39 => ?_) (fun c_39 => ?_)
        · have hs := hs.2 c_39
          refine lv_iconst (v := 0) hx hb dX8_pictures_46 (by decide) ?_
          refine lv_istore (lv' := [(4, .int 0), (3, .int v3), (2, .int v2), (0, .ref (M 0)), (1, .int p0)]) hx hb dX8_pictures_47 hl (by decide) rfl (fun ls hl => ?_)
          refine lv_iload_n hx hb dX8_pictures_49 rfl (lv_at hl 2 rfl) ?_
          refine lv_iload hx hb dX8_pictures_50 (lv_at hl 0 rfl) ?_
          refine lv_if_eq (tgt := 59) hx hb dX8_pictures_52 (by decide) (fun _ => ?_) (fun c => absurd c (by decide))
          refine lv_iconst (v := 0) hx hb dX8_pictures_59 (by decide) ?_
          refine lv_iadd hx hb dX8_pictures_60 ?_
          refine lv_istore_n (lv' := [(2, .int (v2 + 0)), (4, .int 0), (3, .int v3), (0, .ref (M 0)), (1, .int p0)]) hx hb dX8_pictures_61 rfl hl (by decide) rfl (fun ls hl => ?_)
          refine lv_iinc (v := (v3 + 1)) (lv' := [(3, .int (v3 + 1)), (2, .int (v2 + 0)), (4, .int 0), (0, .ref (M 0)), (1, .int p0)]) hx hb dX8_pictures_62 hl (k := 2) rfl (rfl) (by decide) rfl (fun ls hl => ?_)
          refine lv_goto (tgt := 8) hx hb dX8_pictures_65 (by decide) ?_
          exact ih ((v2 + 0), (v3 + 1), a0) _ _ _ ⟨(v2 + 0), (v3 + 1), a0, rfl, lt_fuS hF (lt_nle c_15), (Eq.trans (Eq.symm (Eq.trans (if_neg c_15) (Eq.trans (if_neg c_20) (Eq.trans (if_neg c_39) rfl)))) hT), hs.1, hP, hD, hS, lv_sub hl [0, 1, 3, 4] rfl⟩
        · have hs := hs.1 c_39
          refine lv_iconst (v := 1) hx hb dX8_pictures_42 (by decide) ?_
          refine lv_goto (tgt := 47) hx hb dX8_pictures_43 (by decide) ?_
          refine lv_istore (lv' := [(4, .int 1), (3, .int v3), (2, .int v2), (0, .ref (M 0)), (1, .int p0)]) hx hb dX8_pictures_47 hl (by decide) rfl (fun ls hl => ?_)
          refine lv_iload_n hx hb dX8_pictures_49 rfl (lv_at hl 2 rfl) ?_
          refine lv_iload hx hb dX8_pictures_50 (lv_at hl 0 rfl) ?_
          refine lv_if_eq (tgt := 59) hx hb dX8_pictures_52 (by decide) (fun c => absurd c (by decide)) (fun _ => ?_)
          refine lv_iconst (v := 1) hx hb dX8_pictures_55 (by decide) ?_
          refine lv_goto (tgt := 60) hx hb dX8_pictures_56 (by decide) ?_
          refine lv_iadd hx hb dX8_pictures_60 ?_
          refine lv_istore_n (lv' := [(2, .int (v2 + 1)), (4, .int 1), (3, .int v3), (0, .ref (M 0)), (1, .int p0)]) hx hb dX8_pictures_61 rfl hl (by decide) rfl (fun ls hl => ?_)
          refine lv_iinc (v := (v3 + 1)) (lv' := [(3, .int (v3 + 1)), (2, .int (v2 + 1)), (4, .int 1), (0, .ref (M 0)), (1, .int p0)]) hx hb dX8_pictures_62 hl (k := 2) rfl (rfl) (by decide) rfl (fun ls hl => ?_)
          refine lv_goto (tgt := 8) hx hb dX8_pictures_65 (by decide) ?_
          exact ih ((v2 + 1), (v3 + 1), a0) _ _ _ ⟨(v2 + 1), (v3 + 1), a0, rfl, lt_fuS hF (lt_nle c_15), (Eq.trans (Eq.symm (Eq.trans (if_neg c_15) (Eq.trans (if_neg c_20) (Eq.trans (if_pos c_39) rfl)))) hT), hs.1, hP, hD, hS, lv_sub hl [0, 1, 3, 4] rfl⟩
      · have hs := hs.1 c_20
        refine lv_aload_n hx hb dX8_pictures_23 rfl (lv_at hl 2 rfl) ?_
        refine lv_iload_n hx hb dX8_pictures_24 rfl (lv_at hl 0 rfl) ?_
        have ho_25 := hs.1; have hs := hs.2
        have hPc := hP.sub (ws' := lt_Md yI yC M i a0) [0, 1, 2, 3, 4, 5, 6, 7, 8] rfl
        refine lt_cR (va_runV (As := [.int v3]) (rest := []) ⟨hx, hb, hml, hown, hts⟩ (c_X8_isSpare l D yI yC yO M i a0 v3 ho_25) (cwV 1 hts gX8_pictures_X8_isSpare rfl rfl rfl (by decide +kernel) ⟨Nat.le_of_ble_eq_true rfl, Nat.le_of_ble_eq_true rfl⟩) (lt_pV hK0 hPc (va_recv hK hPc (ci := 8) (q0 := 0) rfl rfl)) rfl rfl hl.1 rfl (lv_room (Nat.le_of_ble_eq_true rfl)) dX8_pictures_25 ⟨Nat.zero_le _, Nat.zero_le _⟩) (fun r_25 e_r_25 => ?_)
        have hs := hs r_25 e_r_25
        refine lv_goto (tgt := 47) hx hb dX8_pictures_28 (by decide) ?_
        refine lv_istore (lv' := [(4, .int r_25), (3, .int v3), (2, .int v2), (0, .ref (M 0)), (1, .int p0)]) hx hb dX8_pictures_47 hl (by decide) rfl (fun ls hl => ?_)
        refine lv_iload_n hx hb dX8_pictures_49 rfl (lv_at hl 2 rfl) ?_
        refine lv_iload hx hb dX8_pictures_50 (lv_at hl 0 rfl) ?_
        refine lv_if_eq (tgt := 59) hx hb dX8_pictures_52 (by decide) (fun c_52 => ?_) (fun c_52 => ?_)
        · have hs := hs.1 c_52
          refine lv_iconst (v := 0) hx hb dX8_pictures_59 (by decide) ?_
          refine lv_iadd hx hb dX8_pictures_60 ?_
          refine lv_istore_n (lv' := [(2, .int (v2 + 0)), (4, .int r_25), (3, .int v3), (0, .ref (M 0)), (1, .int p0)]) hx hb dX8_pictures_61 rfl hl (by decide) rfl (fun ls hl => ?_)
          refine lv_iinc (v := (v3 + 1)) (lv' := [(3, .int (v3 + 1)), (2, .int (v2 + 0)), (4, .int r_25), (0, .ref (M 0)), (1, .int p0)]) hx hb dX8_pictures_62 hl (k := 2) rfl (rfl) (by decide) rfl (fun ls hl => ?_)
          refine lv_goto (tgt := 8) hx hb dX8_pictures_65 (by decide) ?_
          exact ih ((v2 + 0), (v3 + 1), a0) _ _ _ ⟨(v2 + 0), (v3 + 1), a0, rfl, lt_fuS hF (lt_nle c_15), (by subst e_r_25; exact (Eq.trans (Eq.symm (Eq.trans (if_neg c_15) (Eq.trans (if_pos c_20) (Eq.trans (if_pos c_52) rfl)))) hT)), hs.1, hP, hD, hS, lv_sub hl [0, 1, 3, 4] rfl⟩
        · have hs := hs.2 c_52
          refine lv_iconst (v := 1) hx hb dX8_pictures_55 (by decide) ?_
          refine lv_goto (tgt := 60) hx hb dX8_pictures_56 (by decide) ?_
          refine lv_iadd hx hb dX8_pictures_60 ?_
          refine lv_istore_n (lv' := [(2, .int (v2 + 1)), (4, .int r_25), (3, .int v3), (0, .ref (M 0)), (1, .int p0)]) hx hb dX8_pictures_61 rfl hl (by decide) rfl (fun ls hl => ?_)
          refine lv_iinc (v := (v3 + 1)) (lv' := [(3, .int (v3 + 1)), (2, .int (v2 + 1)), (4, .int r_25), (0, .ref (M 0)), (1, .int p0)]) hx hb dX8_pictures_62 hl (k := 2) rfl (rfl) (by decide) rfl (fun ls hl => ?_)
          refine lv_goto (tgt := 8) hx hb dX8_pictures_65 (by decide) ?_
          exact ih ((v2 + 1), (v3 + 1), a0) _ _ _ ⟨(v2 + 1), (v3 + 1), a0, rfl, lt_fuS hF (lt_nle c_15), (by subst e_r_25; exact (Eq.trans (Eq.symm (Eq.trans (if_neg c_15) (Eq.trans (if_pos c_20) (Eq.trans (if_neg c_52) rfl)))) hT)), hs.1, hP, hD, hS, lv_sub hl [0, 1, 3, 4] rfl⟩

def X8_count (i : Nat → Int32) (a : Nat → Nat → Int32) (p0 : Int32) : Int32 × ((Nat → Nat → Int32)) :=
  if p0 = 0 then
    (((a 0) p0.toNatClampNeg), (a))
  else
    if p0 = 1 then
      (((a 0) p0.toNatClampNeg), (a))
    else
      if p0 = 2 then
        (((a 0) p0.toNatClampNeg), (a))
      else
        if p0 = 3 then
          let x_93 := X8_pages i a p0
          (x_93.1, (x_93.2))
        else
          if p0 = 4 then
            let x_93 := X8_pages i a p0
            (x_93.1, (x_93.2))
          else
            if p0 = 5 then
              let x_99 := X8_pictures i a p0
              (x_99.1, (x_99.2))
            else
              if p0 = 6 then
                let x_99 := X8_pictures i a p0
                (x_99.1, (x_99.2))
              else
                if p0 = 7 then
                  (((a 0) ((4 + p0) - 7).toNatClampNeg), (a))
                else
                  if p0 = 8 then
                    (((a 0) ((4 + p0) - 7).toNatClampNeg), (a))
                  else
                    if p0 = 9 then
                      (((a 0) ((4 + p0) - 7).toNatClampNeg), (a))
                    else
                      if p0 = 10 then
                        (((a 0) ((8 + p0) - 10).toNatClampNeg), (a))
                      else
                        if p0 = 11 then
                          (((a 0) ((8 + p0) - 10).toNatClampNeg), (a))
                        else
                          if p0 = 12 then
                            (((a 0) ((8 + p0) - 10).toNatClampNeg), (a))
                          else
                            if p0 = 13 then
                              (((a 0) ((8 + p0) - 10).toNatClampNeg), (a))
                            else
                              if p0 = 14 then
                                (((a 0) 3), (a))
                              else
                                if p0 = 15 then
                                  ((i 0), (a))
                                else
                                  if p0 = 16 then
                                    ((i 2), (a))
                                  else
                                    ((-2), (a))
def S_X8_count (i : Nat → Int32) (a : Nat → Nat → Int32) (p0 : Int32) : Prop :=
  (p0 = 0 →
    (vp_in p0 532) ∧
    True) ∧
  (¬ (p0 = 0) →
    (p0 = 1 →
      (vp_in p0 532) ∧
      True) ∧
    (¬ (p0 = 1) →
      (p0 = 2 →
        (vp_in p0 532) ∧
        True) ∧
      (¬ (p0 = 2) →
        (p0 = 3 →
          (S_X8_pages i a p0) ∧
          ∀ x_93, x_93 = X8_pages i a p0 →
          True) ∧
        (¬ (p0 = 3) →
          (p0 = 4 →
            (S_X8_pages i a p0) ∧
            ∀ x_93, x_93 = X8_pages i a p0 →
            True) ∧
          (¬ (p0 = 4) →
            (p0 = 5 →
              (S_X8_pictures i a p0) ∧
              ∀ x_99, x_99 = X8_pictures i a p0 →
              True) ∧
            (¬ (p0 = 5) →
              (p0 = 6 →
                (S_X8_pictures i a p0) ∧
                ∀ x_99, x_99 = X8_pictures i a p0 →
                True) ∧
              (¬ (p0 = 6) →
                (p0 = 7 →
                  (vp_in ((4 + p0) - 7) 532) ∧
                  True) ∧
                (¬ (p0 = 7) →
                  (p0 = 8 →
                    (vp_in ((4 + p0) - 7) 532) ∧
                    True) ∧
                  (¬ (p0 = 8) →
                    (p0 = 9 →
                      (vp_in ((4 + p0) - 7) 532) ∧
                      True) ∧
                    (¬ (p0 = 9) →
                      (p0 = 10 →
                        (vp_in ((8 + p0) - 10) 532) ∧
                        True) ∧
                      (¬ (p0 = 10) →
                        (p0 = 11 →
                          (vp_in ((8 + p0) - 10) 532) ∧
                          True) ∧
                        (¬ (p0 = 11) →
                          (p0 = 12 →
                            (vp_in ((8 + p0) - 10) 532) ∧
                            True) ∧
                          (¬ (p0 = 12) →
                            (p0 = 13 →
                              (vp_in ((8 + p0) - 10) 532) ∧
                              True) ∧
                            (¬ (p0 = 13) →
                              (p0 = 14 →
                                True) ∧
                              (¬ (p0 = 14) →
                                (p0 = 15 →
                                  True) ∧
                                (¬ (p0 = 15) →
                                  (p0 = 16 →
                                    True) ∧
                                  (¬ (p0 = 16) →
                                    True)))))))))))))))))
theorem iw_X8_count_8 : ∀ w ∈ wsX80, w ∈ wsX8_count := by decide +kernel
set_option maxHeartbeats 4000000 in
set_option maxRecDepth 100000 in
theorem c_X8_count (l : Launch) (D : va_G) (yI yC yO : ClassId) (M : Nat → Nat) (i : Nat → Int32) (a : Nat → Nat → Int32) (p0 : Int32) (sz : Nat) (hs : S_X8_count i a p0) : Met l yX8_count wsX8_count ({ frames := 5, cells := 0, slots := 0, locals := 150 }) (va_Pc [.ref (M 0), .int p0] (lt_M D yI yC yO (lt_Md yI yC M i a) sz)) (lt_Qi D (X8_count i a p0) (fun u => lt_Md yI yC M i u) (va_A (lt_Md yI yC M i a) sz)) 0 0 (va_A (lt_Md yI yC M i a) sz) := by
  refine Met.ofW (cc := cX8_count) (maxL := 2) (ret := (some .int)) (by decide) rfl ?_
  intro p e s m args below meth c s₁ B0 hml hv
  obtain ⟨rfl, hsz, hP, hK0, hD0⟩ := hv
  have hx := B0.exec
  have hb := B0.bytes
  have hret := B0.returns
  have hts := atoms_spec (ws := wsX8_count) B0.pre
  have hown : s.vm.findClass RX8 = some m.cls := findClass_of_methodNamed B0.named
  have hlocks := B0.notSynchronized
  have hK := hK0.1
  have hN := hK0.2
  subst hsz
  have hD := hD0.self (sz := s.heap.size)
  generalize hAe : va_A (lt_Md yI yC M i a) s.heap.size = A at hD ⊢
  have hA : ∀ q : Nat, s.heap.size ≤ q → A q := fun q h => by rw [← hAe]; exact Or.inr h
  have hS : va_S A s.heap s.heap [] := va_S.rf
  have hP : va_P D vwCl (lt_Md yI yC M i a) s.heap := hP
  have hD : va_D A (lt_Md yI yC M i a) := hD
  have hl := lv_entry ([.ref (M 0), .int p0]) (n := 2) (Nat.le_of_ble_eq_true rfl)
  rw [lg_entry_eq]
  generalize (lg_sl ([.ref (M 0), .int p0]) ++ List.replicate (2 - (lg_sl ([.ref (M 0), .int p0])).length) Slot.unset).toArray = ls at hl ⊢
  have hl : lv_has ls 2 [(0, .ref (M 0)), (1, .int p0)] := hl
  refine lv_iload_n hx hb dX8_count_0 rfl (lv_at hl 1 rfl) ?_
  rcases Decidable.em (p0 = 0) with h_1_0 | h_1_0
  · have hs := hs.1 h_1_0
    refine lv_tableIn (off := 83) (tgt := 84) hx hb dX8_count_1 (by rw [h_1_0]; decide) (by rw [h_1_0]; decide) (by rw [h_1_0]; rfl) (by decide) ?_
    refine lv_aload_n hx hb dX8_count_84 rfl (lv_at hl 0 rfl) ?_
    refine va_get (D := D) (ci := 8) (v := .ref (M 1)) (C := RX8) (T := TX8) (N := 13) hx hb hts iw_X8_count_8 hown hK hP 0 rfl rfl 0 (by decide) (hts (.fieldLink RX8 7 "LeafTurnerModel" "now" "[I") (by decide +kernel)) (fun _ h9 => h9) rfl dX8_count_85 ?_
    refine lv_iload_n hx hb dX8_count_88 rfl (lv_at hl 1 rfl) ?_
    have ho_89 := hs.1; have hs := hs.2
    refine va_iald hx hb hK hP 1 0 rfl rfl (i := p0) (ho_89) dX8_count_89 ?_
    exact W.iret (v := ((a 0) p0.toNatClampNeg)) hx hb hret (fun t ht hW => ⟨⟨((a 0) p0.toNatClampNeg), (a), rfl, (Eq.symm (Eq.trans (if_pos h_1_0) rfl)), by rw [ht]; exact hP, hD⟩, hS.F ht⟩) hS.2.2 dX8_count_90
  · have hs := hs.2 h_1_0
    rcases Decidable.em (p0 = 1) with h_1_1 | h_1_1
    · have hs := hs.1 h_1_1
      refine lv_tableIn (off := 83) (tgt := 84) hx hb dX8_count_1 (by rw [h_1_1]; decide) (by rw [h_1_1]; decide) (by rw [h_1_1]; rfl) (by decide) ?_
      refine lv_aload_n hx hb dX8_count_84 rfl (lv_at hl 0 rfl) ?_
      refine va_get (D := D) (ci := 8) (v := .ref (M 1)) (C := RX8) (T := TX8) (N := 13) hx hb hts iw_X8_count_8 hown hK hP 0 rfl rfl 0 (by decide) (hts (.fieldLink RX8 7 "LeafTurnerModel" "now" "[I") (by decide +kernel)) (fun _ h9 => h9) rfl dX8_count_85 ?_
      refine lv_iload_n hx hb dX8_count_88 rfl (lv_at hl 1 rfl) ?_
      have ho_89 := hs.1; have hs := hs.2
      refine va_iald hx hb hK hP 1 0 rfl rfl (i := p0) (ho_89) dX8_count_89 ?_
      exact W.iret (v := ((a 0) p0.toNatClampNeg)) hx hb hret (fun t ht hW => ⟨⟨((a 0) p0.toNatClampNeg), (a), rfl, (Eq.symm (Eq.trans (if_neg h_1_0) (Eq.trans (if_pos h_1_1) rfl))), by rw [ht]; exact hP, hD⟩, hS.F ht⟩) hS.2.2 dX8_count_90
    · have hs := hs.2 h_1_1
      rcases Decidable.em (p0 = 2) with h_1_2 | h_1_2
      · have hs := hs.1 h_1_2
        refine lv_tableIn (off := 83) (tgt := 84) hx hb dX8_count_1 (by rw [h_1_2]; decide) (by rw [h_1_2]; decide) (by rw [h_1_2]; rfl) (by decide) ?_
        refine lv_aload_n hx hb dX8_count_84 rfl (lv_at hl 0 rfl) ?_
        refine va_get (D := D) (ci := 8) (v := .ref (M 1)) (C := RX8) (T := TX8) (N := 13) hx hb hts iw_X8_count_8 hown hK hP 0 rfl rfl 0 (by decide) (hts (.fieldLink RX8 7 "LeafTurnerModel" "now" "[I") (by decide +kernel)) (fun _ h9 => h9) rfl dX8_count_85 ?_
        refine lv_iload_n hx hb dX8_count_88 rfl (lv_at hl 1 rfl) ?_
        have ho_89 := hs.1; have hs := hs.2
        refine va_iald hx hb hK hP 1 0 rfl rfl (i := p0) (ho_89) dX8_count_89 ?_
        exact W.iret (v := ((a 0) p0.toNatClampNeg)) hx hb hret (fun t ht hW => ⟨⟨((a 0) p0.toNatClampNeg), (a), rfl, (Eq.symm (Eq.trans (if_neg h_1_0) (Eq.trans (if_neg h_1_1) (Eq.trans (if_pos h_1_2) rfl)))), by rw [ht]; exact hP, hD⟩, hS.F ht⟩) hS.2.2 dX8_count_90
      · have hs := hs.2 h_1_2
        rcases Decidable.em (p0 = 3) with h_1_3 | h_1_3
        · have hs := hs.1 h_1_3
          refine lv_tableIn (off := 90) (tgt := 91) hx hb dX8_count_1 (by rw [h_1_3]; decide) (by rw [h_1_3]; decide) (by rw [h_1_3]; rfl) (by decide) ?_
          refine lv_aload_n hx hb dX8_count_91 rfl (lv_at hl 0 rfl) ?_
          refine lv_iload_n hx hb dX8_count_92 rfl (lv_at hl 1 rfl) ?_
          have ho_93 := hs.1; have hs := hs.2
          have hPc := hP.sub (ws' := lt_Md yI yC M i a) [0, 1, 2, 3, 4, 5, 6, 7, 8] rfl
          have hDc := hD.sub (ws' := lt_Md yI yC M i a) [0, 1, 2, 3, 4, 5, 6, 7, 8] (by decide) rfl
          refine lt_cWi (wc := lt_Md yI yC M i a) (wr := []) (va_runV (As := [.int p0]) (rest := []) ⟨hx, hb, hml, hown, hts⟩ (c_X8_pages l D yI yC yO M i a p0 _ ho_93) (cwV 1 hts gX8_count_X8_pages rfl rfl rfl (by decide +kernel) ⟨Nat.le_of_ble_eq_true rfl, Nat.le_of_ble_eq_true rfl⟩) (lt_qV hK0 hPc hDc (va_recv hK hPc (ci := 8) (q0 := 0) rfl rfl)) rfl rfl hl.1 rfl (lv_room (Nat.le_of_ble_eq_true rfl)) dX8_count_93 ⟨Nat.zero_le _, Nat.zero_le _⟩) hP hD hS hA [0, 1, 2, 3, 4, 5, 6, 7, 8] [] rfl rfl (by decide) (by decide) (fun x_93 e_x_93 H locs hP hD hS => ?_)
          have hP := hP.sub (ws' := lt_Md yI yC M i x_93.2) [0, 1, 2, 3, 4, 5, 6, 7, 8] rfl
          have hD := hD.sub (ws' := lt_Md yI yC M i x_93.2) [0, 1, 2, 3, 4, 5, 6, 7, 8] (by decide) rfl
          have hs := hs x_93 e_x_93
          exact W.iret (v := x_93.1) hx hb hret (fun t ht hW => ⟨⟨x_93.1, (x_93.2), rfl, (by subst e_x_93; exact (Eq.symm (Eq.trans (if_neg h_1_0) (Eq.trans (if_neg h_1_1) (Eq.trans (if_neg h_1_2) (Eq.trans (if_pos h_1_3) rfl)))))), by rw [ht]; exact hP, hD⟩, hS.F ht⟩) hS.2.2 dX8_count_96
        · have hs := hs.2 h_1_3
          rcases Decidable.em (p0 = 4) with h_1_4 | h_1_4
          · have hs := hs.1 h_1_4
            refine lv_tableIn (off := 90) (tgt := 91) hx hb dX8_count_1 (by rw [h_1_4]; decide) (by rw [h_1_4]; decide) (by rw [h_1_4]; rfl) (by decide) ?_
            refine lv_aload_n hx hb dX8_count_91 rfl (lv_at hl 0 rfl) ?_
            refine lv_iload_n hx hb dX8_count_92 rfl (lv_at hl 1 rfl) ?_
            have ho_93 := hs.1; have hs := hs.2
            have hPc := hP.sub (ws' := lt_Md yI yC M i a) [0, 1, 2, 3, 4, 5, 6, 7, 8] rfl
            have hDc := hD.sub (ws' := lt_Md yI yC M i a) [0, 1, 2, 3, 4, 5, 6, 7, 8] (by decide) rfl
            refine lt_cWi (wc := lt_Md yI yC M i a) (wr := []) (va_runV (As := [.int p0]) (rest := []) ⟨hx, hb, hml, hown, hts⟩ (c_X8_pages l D yI yC yO M i a p0 _ ho_93) (cwV 1 hts gX8_count_X8_pages rfl rfl rfl (by decide +kernel) ⟨Nat.le_of_ble_eq_true rfl, Nat.le_of_ble_eq_true rfl⟩) (lt_qV hK0 hPc hDc (va_recv hK hPc (ci := 8) (q0 := 0) rfl rfl)) rfl rfl hl.1 rfl (lv_room (Nat.le_of_ble_eq_true rfl)) dX8_count_93 ⟨Nat.zero_le _, Nat.zero_le _⟩) hP hD hS hA [0, 1, 2, 3, 4, 5, 6, 7, 8] [] rfl rfl (by decide) (by decide) (fun x_93 e_x_93 H locs hP hD hS => ?_)
            have hP := hP.sub (ws' := lt_Md yI yC M i x_93.2) [0, 1, 2, 3, 4, 5, 6, 7, 8] rfl
            have hD := hD.sub (ws' := lt_Md yI yC M i x_93.2) [0, 1, 2, 3, 4, 5, 6, 7, 8] (by decide) rfl
            have hs := hs x_93 e_x_93
            exact W.iret (v := x_93.1) hx hb hret (fun t ht hW => ⟨⟨x_93.1, (x_93.2), rfl, (by subst e_x_93; exact (Eq.symm (Eq.trans (if_neg h_1_0) (Eq.trans (if_neg h_1_1) (Eq.trans (if_neg h_1_2) (Eq.trans (if_neg h_1_3) (Eq.trans (if_pos h_1_4) rfl))))))), by rw [ht]; exact hP, hD⟩, hS.F ht⟩) hS.2.2 dX8_count_96
          · have hs := hs.2 h_1_4
            rcases Decidable.em (p0 = 5) with h_1_5 | h_1_5
            · have hs := hs.1 h_1_5
              refine lv_tableIn (off := 96) (tgt := 97) hx hb dX8_count_1 (by rw [h_1_5]; decide) (by rw [h_1_5]; decide) (by rw [h_1_5]; rfl) (by decide) ?_
              refine lv_aload_n hx hb dX8_count_97 rfl (lv_at hl 0 rfl) ?_
              refine lv_iload_n hx hb dX8_count_98 rfl (lv_at hl 1 rfl) ?_
              have ho_99 := hs.1; have hs := hs.2
              have hPc := hP.sub (ws' := lt_Md yI yC M i a) [0, 1, 2, 3, 4, 5, 6, 7, 8] rfl
              have hDc := hD.sub (ws' := lt_Md yI yC M i a) [0, 1, 2, 3, 4, 5, 6, 7, 8] (by decide) rfl
              refine lt_cWi (wc := lt_Md yI yC M i a) (wr := []) (va_runV (As := [.int p0]) (rest := []) ⟨hx, hb, hml, hown, hts⟩ (c_X8_pictures l D yI yC yO M i a p0 _ ho_99) (cwV 1 hts gX8_count_X8_pictures rfl rfl rfl (by decide +kernel) ⟨Nat.le_of_ble_eq_true rfl, Nat.le_of_ble_eq_true rfl⟩) (lt_qV hK0 hPc hDc (va_recv hK hPc (ci := 8) (q0 := 0) rfl rfl)) rfl rfl hl.1 rfl (lv_room (Nat.le_of_ble_eq_true rfl)) dX8_count_99 ⟨Nat.zero_le _, Nat.zero_le _⟩) hP hD hS hA [0, 1, 2, 3, 4, 5, 6, 7, 8] [] rfl rfl (by decide) (by decide) (fun x_99 e_x_99 H locs hP hD hS => ?_)
              have hP := hP.sub (ws' := lt_Md yI yC M i x_99.2) [0, 1, 2, 3, 4, 5, 6, 7, 8] rfl
              have hD := hD.sub (ws' := lt_Md yI yC M i x_99.2) [0, 1, 2, 3, 4, 5, 6, 7, 8] (by decide) rfl
              have hs := hs x_99 e_x_99
              exact W.iret (v := x_99.1) hx hb hret (fun t ht hW => ⟨⟨x_99.1, (x_99.2), rfl, (by subst e_x_99; exact (Eq.symm (Eq.trans (if_neg h_1_0) (Eq.trans (if_neg h_1_1) (Eq.trans (if_neg h_1_2) (Eq.trans (if_neg h_1_3) (Eq.trans (if_neg h_1_4) (Eq.trans (if_pos h_1_5) rfl)))))))), by rw [ht]; exact hP, hD⟩, hS.F ht⟩) hS.2.2 dX8_count_102
            · have hs := hs.2 h_1_5
              rcases Decidable.em (p0 = 6) with h_1_6 | h_1_6
              · have hs := hs.1 h_1_6
                refine lv_tableIn (off := 96) (tgt := 97) hx hb dX8_count_1 (by rw [h_1_6]; decide) (by rw [h_1_6]; decide) (by rw [h_1_6]; rfl) (by decide) ?_
                refine lv_aload_n hx hb dX8_count_97 rfl (lv_at hl 0 rfl) ?_
                refine lv_iload_n hx hb dX8_count_98 rfl (lv_at hl 1 rfl) ?_
                have ho_99 := hs.1; have hs := hs.2
                have hPc := hP.sub (ws' := lt_Md yI yC M i a) [0, 1, 2, 3, 4, 5, 6, 7, 8] rfl
                have hDc := hD.sub (ws' := lt_Md yI yC M i a) [0, 1, 2, 3, 4, 5, 6, 7, 8] (by decide) rfl
                refine lt_cWi (wc := lt_Md yI yC M i a) (wr := []) (va_runV (As := [.int p0]) (rest := []) ⟨hx, hb, hml, hown, hts⟩ (c_X8_pictures l D yI yC yO M i a p0 _ ho_99) (cwV 1 hts gX8_count_X8_pictures rfl rfl rfl (by decide +kernel) ⟨Nat.le_of_ble_eq_true rfl, Nat.le_of_ble_eq_true rfl⟩) (lt_qV hK0 hPc hDc (va_recv hK hPc (ci := 8) (q0 := 0) rfl rfl)) rfl rfl hl.1 rfl (lv_room (Nat.le_of_ble_eq_true rfl)) dX8_count_99 ⟨Nat.zero_le _, Nat.zero_le _⟩) hP hD hS hA [0, 1, 2, 3, 4, 5, 6, 7, 8] [] rfl rfl (by decide) (by decide) (fun x_99 e_x_99 H locs hP hD hS => ?_)
                have hP := hP.sub (ws' := lt_Md yI yC M i x_99.2) [0, 1, 2, 3, 4, 5, 6, 7, 8] rfl
                have hD := hD.sub (ws' := lt_Md yI yC M i x_99.2) [0, 1, 2, 3, 4, 5, 6, 7, 8] (by decide) rfl
                have hs := hs x_99 e_x_99
                exact W.iret (v := x_99.1) hx hb hret (fun t ht hW => ⟨⟨x_99.1, (x_99.2), rfl, (by subst e_x_99; exact (Eq.symm (Eq.trans (if_neg h_1_0) (Eq.trans (if_neg h_1_1) (Eq.trans (if_neg h_1_2) (Eq.trans (if_neg h_1_3) (Eq.trans (if_neg h_1_4) (Eq.trans (if_neg h_1_5) (Eq.trans (if_pos h_1_6) rfl))))))))), by rw [ht]; exact hP, hD⟩, hS.F ht⟩) hS.2.2 dX8_count_102
              · have hs := hs.2 h_1_6
                rcases Decidable.em (p0 = 7) with h_1_7 | h_1_7
                · have hs := hs.1 h_1_7
                  refine lv_tableIn (off := 102) (tgt := 103) hx hb dX8_count_1 (by rw [h_1_7]; decide) (by rw [h_1_7]; decide) (by rw [h_1_7]; rfl) (by decide) ?_
                  refine lv_aload_n hx hb dX8_count_103 rfl (lv_at hl 0 rfl) ?_
                  refine va_get (D := D) (ci := 8) (v := .ref (M 1)) (C := RX8) (T := TX8) (N := 13) hx hb hts iw_X8_count_8 hown hK hP 0 rfl rfl 0 (by decide) (hts (.fieldLink RX8 7 "LeafTurnerModel" "now" "[I") (by decide +kernel)) (fun _ h9 => h9) rfl dX8_count_104 ?_
                  refine lv_iconst (v := 4) hx hb dX8_count_107 (by decide) ?_
                  refine lv_iload_n hx hb dX8_count_108 rfl (lv_at hl 1 rfl) ?_
                  refine lv_iadd hx hb dX8_count_109 ?_
                  refine lv_bipush (v := 7) hx hb dX8_count_110 (by decide) ?_
                  refine lv_isub hx hb dX8_count_112 ?_
                  have ho_113 := hs.1; have hs := hs.2
                  refine va_iald hx hb hK hP 1 0 rfl rfl (i := ((4 + p0) - 7)) (ho_113) dX8_count_113 ?_
                  exact W.iret (v := ((a 0) ((4 + p0) - 7).toNatClampNeg)) hx hb hret (fun t ht hW => ⟨⟨((a 0) ((4 + p0) - 7).toNatClampNeg), (a), rfl, (Eq.symm (Eq.trans (if_neg h_1_0) (Eq.trans (if_neg h_1_1) (Eq.trans (if_neg h_1_2) (Eq.trans (if_neg h_1_3) (Eq.trans (if_neg h_1_4) (Eq.trans (if_neg h_1_5) (Eq.trans (if_neg h_1_6) (Eq.trans (if_pos h_1_7) rfl))))))))), by rw [ht]; exact hP, hD⟩, hS.F ht⟩) hS.2.2 dX8_count_114
                · have hs := hs.2 h_1_7
                  rcases Decidable.em (p0 = 8) with h_1_8 | h_1_8
                  · have hs := hs.1 h_1_8
                    refine lv_tableIn (off := 102) (tgt := 103) hx hb dX8_count_1 (by rw [h_1_8]; decide) (by rw [h_1_8]; decide) (by rw [h_1_8]; rfl) (by decide) ?_
                    refine lv_aload_n hx hb dX8_count_103 rfl (lv_at hl 0 rfl) ?_
                    refine va_get (D := D) (ci := 8) (v := .ref (M 1)) (C := RX8) (T := TX8) (N := 13) hx hb hts iw_X8_count_8 hown hK hP 0 rfl rfl 0 (by decide) (hts (.fieldLink RX8 7 "LeafTurnerModel" "now" "[I") (by decide +kernel)) (fun _ h9 => h9) rfl dX8_count_104 ?_
                    refine lv_iconst (v := 4) hx hb dX8_count_107 (by decide) ?_
                    refine lv_iload_n hx hb dX8_count_108 rfl (lv_at hl 1 rfl) ?_
                    refine lv_iadd hx hb dX8_count_109 ?_
                    refine lv_bipush (v := 7) hx hb dX8_count_110 (by decide) ?_
                    refine lv_isub hx hb dX8_count_112 ?_
                    have ho_113 := hs.1; have hs := hs.2
                    refine va_iald hx hb hK hP 1 0 rfl rfl (i := ((4 + p0) - 7)) (ho_113) dX8_count_113 ?_
                    exact W.iret (v := ((a 0) ((4 + p0) - 7).toNatClampNeg)) hx hb hret (fun t ht hW => ⟨⟨((a 0) ((4 + p0) - 7).toNatClampNeg), (a), rfl, (Eq.symm (Eq.trans (if_neg h_1_0) (Eq.trans (if_neg h_1_1) (Eq.trans (if_neg h_1_2) (Eq.trans (if_neg h_1_3) (Eq.trans (if_neg h_1_4) (Eq.trans (if_neg h_1_5) (Eq.trans (if_neg h_1_6) (Eq.trans (if_neg h_1_7) (Eq.trans (if_pos h_1_8) rfl)))))))))), by rw [ht]; exact hP, hD⟩, hS.F ht⟩) hS.2.2 dX8_count_114
                  · have hs := hs.2 h_1_8
                    rcases Decidable.em (p0 = 9) with h_1_9 | h_1_9
                    · have hs := hs.1 h_1_9
                      refine lv_tableIn (off := 102) (tgt := 103) hx hb dX8_count_1 (by rw [h_1_9]; decide) (by rw [h_1_9]; decide) (by rw [h_1_9]; rfl) (by decide) ?_
                      refine lv_aload_n hx hb dX8_count_103 rfl (lv_at hl 0 rfl) ?_
                      refine va_get (D := D) (ci := 8) (v := .ref (M 1)) (C := RX8) (T := TX8) (N := 13) hx hb hts iw_X8_count_8 hown hK hP 0 rfl rfl 0 (by decide) (hts (.fieldLink RX8 7 "LeafTurnerModel" "now" "[I") (by decide +kernel)) (fun _ h9 => h9) rfl dX8_count_104 ?_
                      refine lv_iconst (v := 4) hx hb dX8_count_107 (by decide) ?_
                      refine lv_iload_n hx hb dX8_count_108 rfl (lv_at hl 1 rfl) ?_
                      refine lv_iadd hx hb dX8_count_109 ?_
                      refine lv_bipush (v := 7) hx hb dX8_count_110 (by decide) ?_
                      refine lv_isub hx hb dX8_count_112 ?_
                      have ho_113 := hs.1; have hs := hs.2
                      refine va_iald hx hb hK hP 1 0 rfl rfl (i := ((4 + p0) - 7)) (ho_113) dX8_count_113 ?_
                      exact W.iret (v := ((a 0) ((4 + p0) - 7).toNatClampNeg)) hx hb hret (fun t ht hW => ⟨⟨((a 0) ((4 + p0) - 7).toNatClampNeg), (a), rfl, (Eq.symm (Eq.trans (if_neg h_1_0) (Eq.trans (if_neg h_1_1) (Eq.trans (if_neg h_1_2) (Eq.trans (if_neg h_1_3) (Eq.trans (if_neg h_1_4) (Eq.trans (if_neg h_1_5) (Eq.trans (if_neg h_1_6) (Eq.trans (if_neg h_1_7) (Eq.trans (if_neg h_1_8) (Eq.trans (if_pos h_1_9) rfl))))))))))), by rw [ht]; exact hP, hD⟩, hS.F ht⟩) hS.2.2 dX8_count_114
                    · have hs := hs.2 h_1_9
                      rcases Decidable.em (p0 = 10) with h_1_10 | h_1_10
                      · have hs := hs.1 h_1_10
                        refine lv_tableIn (off := 114) (tgt := 115) hx hb dX8_count_1 (by rw [h_1_10]; decide) (by rw [h_1_10]; decide) (by rw [h_1_10]; rfl) (by decide) ?_
                        refine lv_aload_n hx hb dX8_count_115 rfl (lv_at hl 0 rfl) ?_
                        refine va_get (D := D) (ci := 8) (v := .ref (M 1)) (C := RX8) (T := TX8) (N := 13) hx hb hts iw_X8_count_8 hown hK hP 0 rfl rfl 0 (by decide) (hts (.fieldLink RX8 7 "LeafTurnerModel" "now" "[I") (by decide +kernel)) (fun _ h9 => h9) rfl dX8_count_116 ?_
                        refine lv_bipush (v := 8) hx hb dX8_count_119 (by decide) ?_
                        refine lv_iload_n hx hb dX8_count_121 rfl (lv_at hl 1 rfl) ?_
                        refine lv_iadd hx hb dX8_count_122 ?_
                        refine lv_bipush (v := 10) hx hb dX8_count_123 (by decide) ?_
                        refine lv_isub hx hb dX8_count_125 ?_
                        have ho_126 := hs.1; have hs := hs.2
                        refine va_iald hx hb hK hP 1 0 rfl rfl (i := ((8 + p0) - 10)) (ho_126) dX8_count_126 ?_
                        exact W.iret (v := ((a 0) ((8 + p0) - 10).toNatClampNeg)) hx hb hret (fun t ht hW => ⟨⟨((a 0) ((8 + p0) - 10).toNatClampNeg), (a), rfl, (Eq.symm (Eq.trans (if_neg h_1_0) (Eq.trans (if_neg h_1_1) (Eq.trans (if_neg h_1_2) (Eq.trans (if_neg h_1_3) (Eq.trans (if_neg h_1_4) (Eq.trans (if_neg h_1_5) (Eq.trans (if_neg h_1_6) (Eq.trans (if_neg h_1_7) (Eq.trans (if_neg h_1_8) (Eq.trans (if_neg h_1_9) (Eq.trans (if_pos h_1_10) rfl)))))))))))), by rw [ht]; exact hP, hD⟩, hS.F ht⟩) hS.2.2 dX8_count_127
                      · have hs := hs.2 h_1_10
                        rcases Decidable.em (p0 = 11) with h_1_11 | h_1_11
                        · have hs := hs.1 h_1_11
                          refine lv_tableIn (off := 114) (tgt := 115) hx hb dX8_count_1 (by rw [h_1_11]; decide) (by rw [h_1_11]; decide) (by rw [h_1_11]; rfl) (by decide) ?_
                          refine lv_aload_n hx hb dX8_count_115 rfl (lv_at hl 0 rfl) ?_
                          refine va_get (D := D) (ci := 8) (v := .ref (M 1)) (C := RX8) (T := TX8) (N := 13) hx hb hts iw_X8_count_8 hown hK hP 0 rfl rfl 0 (by decide) (hts (.fieldLink RX8 7 "LeafTurnerModel" "now" "[I") (by decide +kernel)) (fun _ h9 => h9) rfl dX8_count_116 ?_
                          refine lv_bipush (v := 8) hx hb dX8_count_119 (by decide) ?_
                          refine lv_iload_n hx hb dX8_count_121 rfl (lv_at hl 1 rfl) ?_
                          refine lv_iadd hx hb dX8_count_122 ?_
                          refine lv_bipush (v := 10) hx hb dX8_count_123 (by decide) ?_
                          refine lv_isub hx hb dX8_count_125 ?_
                          have ho_126 := hs.1; have hs := hs.2
                          refine va_iald hx hb hK hP 1 0 rfl rfl (i := ((8 + p0) - 10)) (ho_126) dX8_count_126 ?_
                          exact W.iret (v := ((a 0) ((8 + p0) - 10).toNatClampNeg)) hx hb hret (fun t ht hW => ⟨⟨((a 0) ((8 + p0) - 10).toNatClampNeg), (a), rfl, (Eq.symm (Eq.trans (if_neg h_1_0) (Eq.trans (if_neg h_1_1) (Eq.trans (if_neg h_1_2) (Eq.trans (if_neg h_1_3) (Eq.trans (if_neg h_1_4) (Eq.trans (if_neg h_1_5) (Eq.trans (if_neg h_1_6) (Eq.trans (if_neg h_1_7) (Eq.trans (if_neg h_1_8) (Eq.trans (if_neg h_1_9) (Eq.trans (if_neg h_1_10) (Eq.trans (if_pos h_1_11) rfl))))))))))))), by rw [ht]; exact hP, hD⟩, hS.F ht⟩) hS.2.2 dX8_count_127
                        · have hs := hs.2 h_1_11
                          rcases Decidable.em (p0 = 12) with h_1_12 | h_1_12
                          · have hs := hs.1 h_1_12
                            refine lv_tableIn (off := 114) (tgt := 115) hx hb dX8_count_1 (by rw [h_1_12]; decide) (by rw [h_1_12]; decide) (by rw [h_1_12]; rfl) (by decide) ?_
                            refine lv_aload_n hx hb dX8_count_115 rfl (lv_at hl 0 rfl) ?_
                            refine va_get (D := D) (ci := 8) (v := .ref (M 1)) (C := RX8) (T := TX8) (N := 13) hx hb hts iw_X8_count_8 hown hK hP 0 rfl rfl 0 (by decide) (hts (.fieldLink RX8 7 "LeafTurnerModel" "now" "[I") (by decide +kernel)) (fun _ h9 => h9) rfl dX8_count_116 ?_
                            refine lv_bipush (v := 8) hx hb dX8_count_119 (by decide) ?_
                            refine lv_iload_n hx hb dX8_count_121 rfl (lv_at hl 1 rfl) ?_
                            refine lv_iadd hx hb dX8_count_122 ?_
                            refine lv_bipush (v := 10) hx hb dX8_count_123 (by decide) ?_
                            refine lv_isub hx hb dX8_count_125 ?_
                            have ho_126 := hs.1; have hs := hs.2
                            refine va_iald hx hb hK hP 1 0 rfl rfl (i := ((8 + p0) - 10)) (ho_126) dX8_count_126 ?_
                            exact W.iret (v := ((a 0) ((8 + p0) - 10).toNatClampNeg)) hx hb hret (fun t ht hW => ⟨⟨((a 0) ((8 + p0) - 10).toNatClampNeg), (a), rfl, (Eq.symm (Eq.trans (if_neg h_1_0) (Eq.trans (if_neg h_1_1) (Eq.trans (if_neg h_1_2) (Eq.trans (if_neg h_1_3) (Eq.trans (if_neg h_1_4) (Eq.trans (if_neg h_1_5) (Eq.trans (if_neg h_1_6) (Eq.trans (if_neg h_1_7) (Eq.trans (if_neg h_1_8) (Eq.trans (if_neg h_1_9) (Eq.trans (if_neg h_1_10) (Eq.trans (if_neg h_1_11) (Eq.trans (if_pos h_1_12) rfl)))))))))))))), by rw [ht]; exact hP, hD⟩, hS.F ht⟩) hS.2.2 dX8_count_127
                          · have hs := hs.2 h_1_12
                            rcases Decidable.em (p0 = 13) with h_1_13 | h_1_13
                            · have hs := hs.1 h_1_13
                              refine lv_tableIn (off := 114) (tgt := 115) hx hb dX8_count_1 (by rw [h_1_13]; decide) (by rw [h_1_13]; decide) (by rw [h_1_13]; rfl) (by decide) ?_
                              refine lv_aload_n hx hb dX8_count_115 rfl (lv_at hl 0 rfl) ?_
                              refine va_get (D := D) (ci := 8) (v := .ref (M 1)) (C := RX8) (T := TX8) (N := 13) hx hb hts iw_X8_count_8 hown hK hP 0 rfl rfl 0 (by decide) (hts (.fieldLink RX8 7 "LeafTurnerModel" "now" "[I") (by decide +kernel)) (fun _ h9 => h9) rfl dX8_count_116 ?_
                              refine lv_bipush (v := 8) hx hb dX8_count_119 (by decide) ?_
                              refine lv_iload_n hx hb dX8_count_121 rfl (lv_at hl 1 rfl) ?_
                              refine lv_iadd hx hb dX8_count_122 ?_
                              refine lv_bipush (v := 10) hx hb dX8_count_123 (by decide) ?_
                              refine lv_isub hx hb dX8_count_125 ?_
                              have ho_126 := hs.1; have hs := hs.2
                              refine va_iald hx hb hK hP 1 0 rfl rfl (i := ((8 + p0) - 10)) (ho_126) dX8_count_126 ?_
                              exact W.iret (v := ((a 0) ((8 + p0) - 10).toNatClampNeg)) hx hb hret (fun t ht hW => ⟨⟨((a 0) ((8 + p0) - 10).toNatClampNeg), (a), rfl, (Eq.symm (Eq.trans (if_neg h_1_0) (Eq.trans (if_neg h_1_1) (Eq.trans (if_neg h_1_2) (Eq.trans (if_neg h_1_3) (Eq.trans (if_neg h_1_4) (Eq.trans (if_neg h_1_5) (Eq.trans (if_neg h_1_6) (Eq.trans (if_neg h_1_7) (Eq.trans (if_neg h_1_8) (Eq.trans (if_neg h_1_9) (Eq.trans (if_neg h_1_10) (Eq.trans (if_neg h_1_11) (Eq.trans (if_neg h_1_12) (Eq.trans (if_pos h_1_13) rfl))))))))))))))), by rw [ht]; exact hP, hD⟩, hS.F ht⟩) hS.2.2 dX8_count_127
                            · have hs := hs.2 h_1_13
                              rcases Decidable.em (p0 = 14) with h_1_14 | h_1_14
                              · have hs := hs.1 h_1_14
                                refine lv_tableIn (off := 127) (tgt := 128) hx hb dX8_count_1 (by rw [h_1_14]; decide) (by rw [h_1_14]; decide) (by rw [h_1_14]; rfl) (by decide) ?_
                                refine lv_aload_n hx hb dX8_count_128 rfl (lv_at hl 0 rfl) ?_
                                refine va_get (D := D) (ci := 8) (v := .ref (M 1)) (C := RX8) (T := TX8) (N := 13) hx hb hts iw_X8_count_8 hown hK hP 0 rfl rfl 0 (by decide) (hts (.fieldLink RX8 7 "LeafTurnerModel" "now" "[I") (by decide +kernel)) (fun _ h9 => h9) rfl dX8_count_129 ?_
                                refine lv_iconst (v := 3) hx hb dX8_count_132 (by decide) ?_
                                refine va_iald hx hb hK hP 1 0 rfl rfl (i := 3) (vp_in_iff.mpr (by decide)) dX8_count_133 ?_
                                refine lt_top (y := ((a 0) 3)) rfl ?_
                                exact W.iret (v := ((a 0) 3)) hx hb hret (fun t ht hW => ⟨⟨((a 0) 3), (a), rfl, (Eq.symm (Eq.trans (if_neg h_1_0) (Eq.trans (if_neg h_1_1) (Eq.trans (if_neg h_1_2) (Eq.trans (if_neg h_1_3) (Eq.trans (if_neg h_1_4) (Eq.trans (if_neg h_1_5) (Eq.trans (if_neg h_1_6) (Eq.trans (if_neg h_1_7) (Eq.trans (if_neg h_1_8) (Eq.trans (if_neg h_1_9) (Eq.trans (if_neg h_1_10) (Eq.trans (if_neg h_1_11) (Eq.trans (if_neg h_1_12) (Eq.trans (if_neg h_1_13) (Eq.trans (if_pos h_1_14) rfl)))))))))))))))), by rw [ht]; exact hP, hD⟩, hS.F ht⟩) hS.2.2 dX8_count_134
                              · have hs := hs.2 h_1_14
                                rcases Decidable.em (p0 = 15) with h_1_15 | h_1_15
                                · have hs := hs.1 h_1_15
                                  refine lv_tableIn (off := 134) (tgt := 135) hx hb dX8_count_1 (by rw [h_1_15]; decide) (by rw [h_1_15]; decide) (by rw [h_1_15]; rfl) (by decide) ?_
                                  refine lv_aload_n hx hb dX8_count_135 rfl (lv_at hl 0 rfl) ?_
                                  refine va_get (D := D) (ci := 8) (v := .int (i 0)) (C := RX8) (T := TX8) (N := 13) hx hb hts iw_X8_count_8 hown hK hP 0 rfl rfl 3 (by decide) (hts (.fieldLink RX8 35 "LeafTurnerModel" "states" "I") (by decide +kernel)) (fun _ h9 => h9) rfl dX8_count_136 ?_
                                  exact W.iret (v := (i 0)) hx hb hret (fun t ht hW => ⟨⟨(i 0), (a), rfl, (Eq.symm (Eq.trans (if_neg h_1_0) (Eq.trans (if_neg h_1_1) (Eq.trans (if_neg h_1_2) (Eq.trans (if_neg h_1_3) (Eq.trans (if_neg h_1_4) (Eq.trans (if_neg h_1_5) (Eq.trans (if_neg h_1_6) (Eq.trans (if_neg h_1_7) (Eq.trans (if_neg h_1_8) (Eq.trans (if_neg h_1_9) (Eq.trans (if_neg h_1_10) (Eq.trans (if_neg h_1_11) (Eq.trans (if_neg h_1_12) (Eq.trans (if_neg h_1_13) (Eq.trans (if_neg h_1_14) (Eq.trans (if_pos h_1_15) rfl))))))))))))))))), by rw [ht]; exact hP, hD⟩, hS.F ht⟩) hS.2.2 dX8_count_139
                                · have hs := hs.2 h_1_15
                                  rcases Decidable.em (p0 = 16) with h_1_16 | h_1_16
                                  · have hs := hs.1 h_1_16
                                    refine lv_tableIn (off := 139) (tgt := 140) hx hb dX8_count_1 (by rw [h_1_16]; decide) (by rw [h_1_16]; decide) (by rw [h_1_16]; rfl) (by decide) ?_
                                    refine lv_aload_n hx hb dX8_count_140 rfl (lv_at hl 0 rfl) ?_
                                    refine va_get (D := D) (ci := 8) (v := .int (i 2)) (C := RX8) (T := TX8) (N := 13) hx hb hts iw_X8_count_8 hown hK hP 0 rfl rfl 7 (by decide) (hts (.fieldLink RX8 113 "LeafTurnerModel" "length" "I") (by decide +kernel)) (fun _ h9 => h9) rfl dX8_count_141 ?_
                                    exact W.iret (v := (i 2)) hx hb hret (fun t ht hW => ⟨⟨(i 2), (a), rfl, (Eq.symm (Eq.trans (if_neg h_1_0) (Eq.trans (if_neg h_1_1) (Eq.trans (if_neg h_1_2) (Eq.trans (if_neg h_1_3) (Eq.trans (if_neg h_1_4) (Eq.trans (if_neg h_1_5) (Eq.trans (if_neg h_1_6) (Eq.trans (if_neg h_1_7) (Eq.trans (if_neg h_1_8) (Eq.trans (if_neg h_1_9) (Eq.trans (if_neg h_1_10) (Eq.trans (if_neg h_1_11) (Eq.trans (if_neg h_1_12) (Eq.trans (if_neg h_1_13) (Eq.trans (if_neg h_1_14) (Eq.trans (if_neg h_1_15) (Eq.trans (if_pos h_1_16) rfl)))))))))))))))))), by rw [ht]; exact hP, hD⟩, hS.F ht⟩) hS.2.2 dX8_count_144
                                  · have hs := hs.2 h_1_16
                                    refine lv_tableOut (tgt := 145) hx hb dX8_count_1 (lt_sw0_16 h_1_0 h_1_1 h_1_2 h_1_3 h_1_4 h_1_5 h_1_6 h_1_7 h_1_8 h_1_9 h_1_10 h_1_11 h_1_12 h_1_13 h_1_14 h_1_15 h_1_16) (by decide) ?_
                                    refine lv_bipush (v := (-2)) hx hb dX8_count_145 (by decide) ?_
                                    exact W.iret (v := (-2)) hx hb hret (fun t ht hW => ⟨⟨(-2), (a), rfl, (Eq.symm (Eq.trans (if_neg h_1_0) (Eq.trans (if_neg h_1_1) (Eq.trans (if_neg h_1_2) (Eq.trans (if_neg h_1_3) (Eq.trans (if_neg h_1_4) (Eq.trans (if_neg h_1_5) (Eq.trans (if_neg h_1_6) (Eq.trans (if_neg h_1_7) (Eq.trans (if_neg h_1_8) (Eq.trans (if_neg h_1_9) (Eq.trans (if_neg h_1_10) (Eq.trans (if_neg h_1_11) (Eq.trans (if_neg h_1_12) (Eq.trans (if_neg h_1_13) (Eq.trans (if_neg h_1_14) (Eq.trans (if_neg h_1_15) (Eq.trans (if_neg h_1_16) rfl)))))))))))))))))), by rw [ht]; exact hP, hD⟩, hS.F ht⟩) hS.2.2 dX8_count_147
