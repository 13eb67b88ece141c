def X7_isSuction (p0 : Int32) : Int32 :=
  if p0 < 1 then
    0
  else
    if 20 < p0 then
      0
    else
      1
set_option maxHeartbeats 4000000 in
set_option maxRecDepth 100000 in
theorem c_X7_isSuction (l : Launch) (D : va_G) (yI yC yO : ClassId) (p0 : Int32) : Met l yX7_isSuction wsX7_isSuction ({ frames := 0, cells := 0, slots := 0, locals := 0 }) (va_Pc [.int p0] (lt_R D yI yC yO (([] : va_W)))) (lt_Si (X7_isSuction p0)) 0 0 (fun _ => False) := by
  refine Met.ofW (cc := cX7_isSuction) (maxL := 1) (ret := (some .boolean)) (by decide) rfl ?_
  intro p e s m args below meth c s₁ B0 hml hv
  obtain ⟨rfl, hP, hK0⟩ := hv
  have hx := B0.exec
  have hb := B0.bytes
  have hret := B0.returns
  have hts := atoms_spec (ws := wsX7_isSuction) B0.pre
  have hown : s.vm.findClass RX7 = some m.cls := findClass_of_methodNamed B0.named
  have hlocks := B0.notSynchronized
  have hK := hK0.1
  have hN := hK0.2
  have hP : va_P D vwCl (([] : va_W)) s.heap := hP
  have hl := lv_entry ([.int p0]) (n := 1) (Nat.le_of_ble_eq_true rfl)
  rw [lg_entry_eq]
  generalize (lg_sl ([.int p0]) ++ List.replicate (1 - (lg_sl ([.int p0])).length) Slot.unset).toArray = ls at hl ⊢
  have hl : lv_has ls 1 [(0, .int p0)] := hl
  refine lv_iload_n hx hb dX7_isSuction_0 rfl (lv_at hl 0 rfl) ?_
  refine lv_iconst (v := 1) hx hb dX7_isSuction_1 (by decide) ?_
  refine lv_icmp_lt (tgt := 15) hx hb dX7_isSuction_2 (by decide) (fun c_2 => ?_) (fun c_2 => ?_)
  · refine lv_iconst (v := 0) hx hb dX7_isSuction_15 (by decide) ?_
    exact W.zret (v := 0) hx hb hret lt_z0 (fun t ht hW => ⟨0, rfl, (Eq.symm (Eq.trans (if_pos c_2) rfl)), ht⟩) (fun _ h => absurd h List.not_mem_nil) dX7_isSuction_16
  · refine lv_iload_n hx hb dX7_isSuction_5 rfl (lv_at hl 0 rfl) ?_
    refine lv_bipush (v := 20) hx hb dX7_isSuction_6 (by decide) ?_
    refine lv_icmp_gt (tgt := 15) hx hb dX7_isSuction_8 (by decide) (fun c_8 => ?_) (fun c_8 => ?_)
    · refine lv_iconst (v := 0) hx hb dX7_isSuction_15 (by decide) ?_
      exact W.zret (v := 0) hx hb hret lt_z0 (fun t ht hW => ⟨0, rfl, (Eq.symm (Eq.trans (if_neg c_2) (Eq.trans (if_pos c_8) rfl))), ht⟩) (fun _ h => absurd h List.not_mem_nil) dX7_isSuction_16
    · refine lv_iconst (v := 1) hx hb dX7_isSuction_11 (by decide) ?_
      refine lv_goto (tgt := 16) hx hb dX7_isSuction_12 (by decide) ?_
      exact W.zret (v := 1) hx hb hret lt_z1 (fun t ht hW => ⟨1, rfl, (Eq.symm (Eq.trans (if_neg c_2) (Eq.trans (if_neg c_8) rfl))), ht⟩) (fun _ h => absurd h List.not_mem_nil) dX7_isSuction_16

def X7_isRightPage (p0 : Int32) : Int32 :=
  if (p0 - p0 / 2 * 2) = 0 then
    1
  else
    0
set_option maxHeartbeats 4000000 in
set_option maxRecDepth 100000 in
theorem c_X7_isRightPage (l : Launch) (D : va_G) (yI yC yO : ClassId) (p0 : Int32) : Met l yX7_isRightPage wsX7_isRightPage ({ frames := 0, cells := 0, slots := 0, locals := 0 }) (va_Pc [.int p0] (lt_R D yI yC yO (([] : va_W)))) (lt_Si (X7_isRightPage p0)) 0 0 (fun _ => False) := by
  refine Met.ofW (cc := cX7_isRightPage) (maxL := 1) (ret := (some .boolean)) (by decide) rfl ?_
  intro p e s m args below meth c s₁ B0 hml hv
  obtain ⟨rfl, hP, hK0⟩ := hv
  have hx := B0.exec
  have hb := B0.bytes
  have hret := B0.returns
  have hts := atoms_spec (ws := wsX7_isRightPage) B0.pre
  have hown : s.vm.findClass RX7 = some m.cls := findClass_of_methodNamed B0.named
  have hlocks := B0.notSynchronized
  have hK := hK0.1
  have hN := hK0.2
  have hP : va_P D vwCl (([] : va_W)) s.heap := hP
  have hl := lv_entry ([.int p0]) (n := 1) (Nat.le_of_ble_eq_true rfl)
  rw [lg_entry_eq]
  generalize (lg_sl ([.int p0]) ++ List.replicate (1 - (lg_sl ([.int p0])).length) Slot.unset).toArray = ls at hl ⊢
  have hl : lv_has ls 1 [(0, .int p0)] := hl
  refine lv_iload_n hx hb dX7_isRightPage_0 rfl (lv_at hl 0 rfl) ?_
  refine lv_iconst (v := 2) hx hb dX7_isRightPage_1 (by decide) ?_
  refine lv_irem hx hb dX7_isRightPage_2 (by decide) ?_
  refine lv_if_ne (tgt := 10) hx hb dX7_isRightPage_3 (by decide) (fun c_3 => ?_) (fun c_3 => ?_)
  · refine lv_iconst (v := 0) hx hb dX7_isRightPage_10 (by decide) ?_
    exact W.zret (v := 0) hx hb hret lt_z0 (fun t ht hW => ⟨0, rfl, (Eq.symm (Eq.trans (if_neg c_3) rfl)), ht⟩) (fun _ h => absurd h List.not_mem_nil) dX7_isRightPage_11
  · refine lv_iconst (v := 1) hx hb dX7_isRightPage_6 (by decide) ?_
    refine lv_goto (tgt := 11) hx hb dX7_isRightPage_7 (by decide) ?_
    exact W.zret (v := 1) hx hb hret lt_z1 (fun t ht hW => ⟨1, rfl, (Eq.symm (Eq.trans (if_pos c_3) rfl)), ht⟩) (fun _ h => absurd h List.not_mem_nil) dX7_isRightPage_11

def X7_asNumber (p0 : Int32) : Int32 :=
  if p0 = 0 then
    0
  else
    1
set_option maxHeartbeats 4000000 in
set_option maxRecDepth 100000 in
theorem c_X7_asNumber (l : Launch) (D : va_G) (yI yC yO : ClassId) (p0 : Int32) : Met l yX7_asNumber wsX7_asNumber ({ frames := 0, cells := 0, slots := 0, locals := 0 }) (va_Pc [.int p0] (lt_R D yI yC yO (([] : va_W)))) (lt_Si (X7_asNumber p0)) 0 0 (fun _ => False) := by
  refine Met.ofW (cc := cX7_asNumber) (maxL := 1) (ret := (some .int)) (by decide) rfl ?_
  intro p e s m args below meth c s₁ B0 hml hv
  obtain ⟨rfl, hP, hK0⟩ := hv
  have hx := B0.exec
  have hb := B0.bytes
  have hret := B0.returns
  have hts := atoms_spec (ws := wsX7_asNumber) B0.pre
  have hown : s.vm.findClass RX7 = some m.cls := findClass_of_methodNamed B0.named
  have hlocks := B0.notSynchronized
  have hK := hK0.1
  have hN := hK0.2
  have hP : va_P D vwCl (([] : va_W)) s.heap := hP
  have hl := lv_entry ([.int p0]) (n := 1) (Nat.le_of_ble_eq_true rfl)
  rw [lg_entry_eq]
  generalize (lg_sl ([.int p0]) ++ List.replicate (1 - (lg_sl ([.int p0])).length) Slot.unset).toArray = ls at hl ⊢
  have hl : lv_has ls 1 [(0, .int p0)] := hl
  refine lv_iload_n hx hb dX7_asNumber_0 rfl (lv_at hl 0 rfl) ?_
  refine lv_if_eq (tgt := 8) hx hb dX7_asNumber_1 (by decide) (fun c_1 => ?_) (fun c_1 => ?_)
  · refine lv_iconst (v := 0) hx hb dX7_asNumber_8 (by decide) ?_
    exact W.iret (v := 0) hx hb hret (fun t ht hW => ⟨0, rfl, (Eq.symm (Eq.trans (if_pos c_1) rfl)), ht⟩) (fun _ h => absurd h List.not_mem_nil) dX7_asNumber_9
  · refine lv_iconst (v := 1) hx hb dX7_asNumber_4 (by decide) ?_
    refine lv_goto (tgt := 9) hx hb dX7_asNumber_5 (by decide) ?_
    exact W.iret (v := 1) hx hb hret (fun t ht hW => ⟨1, rfl, (Eq.symm (Eq.trans (if_neg c_1) rfl)), ht⟩) (fun _ h => absurd h List.not_mem_nil) dX7_asNumber_9

def X0_pages (L : Int32) (w : Nat → Int32) (st : Nat → Int32) (q : Nat → Int32) : Int32 :=
  (2 * L)
theorem iw_X0_pages_0 : ∀ w ∈ wsX00, w ∈ wsX0_pages := by decide +kernel
set_option maxHeartbeats 4000000 in
set_option maxRecDepth 100000 in
theorem c_X0_pages (l : Launch) (D : va_G) (yI yC yO : ClassId) (B : Nat → Nat) (L : Int32) (w : Nat → Int32) (st : Nat → Int32) (q : Nat → Int32) : Met l yX0_pages wsX0_pages ({ frames := 0, cells := 0, slots := 0, locals := 0 }) (va_Pc [.ref (B 1)] (lt_R D yI yC yO (lt_Bk yI B L w st q))) (lt_Si (X0_pages L w st q)) 0 0 (fun _ => False) := by
  refine Met.ofW (cc := cX0_pages) (maxL := 1) (ret := (some .int)) (by decide) rfl ?_
  intro p e s m args below meth c s₁ B0 hml hv
  obtain ⟨rfl, hP, hK0⟩ := hv
  have hx := B0.exec
  have hb := B0.bytes
  have hret := B0.returns
  have hts := atoms_spec (ws := wsX0_pages) B0.pre
  have hown : s.vm.findClass RX0 = some m.cls := findClass_of_methodNamed B0.named
  have hlocks := B0.notSynchronized
  have hK := hK0.1
  have hN := hK0.2
  have hP : va_P D vwCl (lt_Bk yI B L w st q) s.heap := hP
  have hl := lv_entry ([.ref (B 1)]) (n := 1) (Nat.le_of_ble_eq_true rfl)
  rw [lg_entry_eq]
  generalize (lg_sl ([.ref (B 1)]) ++ List.replicate (1 - (lg_sl ([.ref (B 1)])).length) Slot.unset).toArray = ls at hl ⊢
  have hl : lv_has ls 1 [(0, .ref (B 1))] := hl
  refine lv_iconst (v := 2) hx hb dX0_pages_0 (by decide) ?_
  refine lv_aload_n hx hb dX0_pages_1 rfl (lv_at hl 0 rfl) ?_
  refine va_get (D := D) (ci := 0) (v := .int L) (C := RX0) (T := TX0) (N := 4) hx hb hts iw_X0_pages_0 hown hK hP 0 rfl rfl 3 (by decide) (hts (.fieldLink RX0 26 "LeafTurner$Book" "leaves" "I") (by decide +kernel)) (fun _ h9 => h9) rfl dX0_pages_2 ?_
  refine lv_imul hx hb dX0_pages_5 ?_
  exact W.iret (v := (2 * L)) hx hb hret (fun t ht hW => ⟨(2 * L), rfl, (Eq.symm rfl), ht⟩) (fun _ h => absurd h List.not_mem_nil) dX0_pages_6

def X0_hasPage (L : Int32) (w : Nat → Int32) (st : Nat → Int32) (q : Nat → Int32) (p0 : Int32) : Int32 :=
  if p0 < 0 then
    0
  else
    let r_6 := X0_pages L w st q
    if r_6 ≤ p0 then
      0
    else
      1
set_option maxHeartbeats 4000000 in
set_option maxRecDepth 100000 in
theorem c_X0_hasPage (l : Launch) (D : va_G) (yI yC yO : ClassId) (B : Nat → Nat) (L : Int32) (w : Nat → Int32) (st : Nat → Int32) (q : Nat → Int32) (p0 : Int32) : Met l yX0_hasPage wsX0_hasPage ({ frames := 1, cells := 0, slots := 0, locals := 30 }) (va_Pc [.ref (B 1), .int p0] (lt_R D yI yC yO (lt_Bk yI B L w st q))) (lt_Si (X0_hasPage L w st q p0)) 0 0 (fun _ => False) := by
  refine Met.ofW (cc := cX0_hasPage) (maxL := 2) (ret := (some .boolean)) (by decide) rfl ?_
  intro p e s m args below meth c s₁ B0 hml hv
  obtain ⟨rfl, hP, hK0⟩ := hv
  have hx := B0.exec
  have hb := B0.bytes
  have hret := B0.returns
  have hts := atoms_spec (ws := wsX0_hasPage) B0.pre
  have hown : s.vm.findClass RX0 = some m.cls := findClass_of_methodNamed B0.named
  have hlocks := B0.notSynchronized
  have hK := hK0.1
  have hN := hK0.2
  have hP : va_P D vwCl (lt_Bk yI B L w st q) s.heap := hP
  have hl := lv_entry ([.ref (B 1), .int p0]) (n := 2) (Nat.le_of_ble_eq_true rfl)
  rw [lg_entry_eq]
  generalize (lg_sl ([.ref (B 1), .int p0]) ++ List.replicate (2 - (lg_sl ([.ref (B 1), .int p0])).length) Slot.unset).toArray = ls at hl ⊢
  have hl : lv_has ls 2 [(0, .ref (B 1)), (1, .int p0)] := hl
  refine lv_iload_n hx hb dX0_hasPage_0 rfl (lv_at hl 1 rfl) ?_
  refine lv_if_lt (tgt := 16) hx hb dX0_hasPage_1 (by decide) (fun c_1 => ?_) (fun c_1 => ?_)
  · refine lv_iconst (v := 0) hx hb dX0_hasPage_16 (by decide) ?_
    exact W.zret (v := 0) hx hb hret lt_z0 (fun t ht hW => ⟨0, rfl, (Eq.symm (Eq.trans (if_pos c_1) rfl)), ht⟩) (fun _ h => absurd h List.not_mem_nil) dX0_hasPage_17
  · refine lv_iload_n hx hb dX0_hasPage_4 rfl (lv_at hl 1 rfl) ?_
    refine lv_aload_n hx hb dX0_hasPage_5 rfl (lv_at hl 0 rfl) ?_
    have hPc := hP.sub (ws' := lt_Bk yI B L w st q) [0, 1, 2, 3, 4, 5, 6] rfl
    refine lt_cR (va_runV (As := []) (rest := [.int p0]) ⟨hx, hb, hml, hown, hts⟩ (c_X0_pages l D yI yC yO B L w st q ) (cwV 0 hts gX0_hasPage_X0_pages rfl rfl rfl (by decide +kernel) ⟨Nat.le_of_ble_eq_true rfl, Nat.le_of_ble_eq_true rfl⟩) (lt_pV hK0 hPc (va_recv hK hPc (ci := 0) (q0 := 0) rfl rfl)) rfl rfl hl.1 rfl (lv_room (Nat.le_of_ble_eq_true rfl)) dX0_hasPage_6 ⟨Nat.zero_le _, Nat.zero_le _⟩) (fun r_6 e_r_6 => ?_)
    refine lv_icmp_ge (tgt := 16) hx hb dX0_hasPage_9 (by decide) (fun c_9 => ?_) (fun c_9 => ?_)
    · refine lv_iconst (v := 0) hx hb dX0_hasPage_16 (by decide) ?_
      exact W.zret (v := 0) hx hb hret lt_z0 (fun t ht hW => ⟨0, rfl, (by subst e_r_6; exact (Eq.symm (Eq.trans (if_neg c_1) (Eq.trans (if_pos c_9) rfl)))), ht⟩) (fun _ h => absurd h List.not_mem_nil) dX0_hasPage_17
    · refine lv_iconst (v := 1) hx hb dX0_hasPage_12 (by decide) ?_
      refine lv_goto (tgt := 17) hx hb dX0_hasPage_13 (by decide) ?_
      exact W.zret (v := 1) hx hb hret lt_z1 (fun t ht hW => ⟨1, rfl, (by subst e_r_6; exact (Eq.symm (Eq.trans (if_neg c_1) (Eq.trans (if_neg c_9) rfl)))), ht⟩) (fun _ h => absurd h List.not_mem_nil) dX0_hasPage_17

def X0_addLeaf (L : Int32) (w : Nat → Int32) (st : Nat → Int32) (q : Nat → Int32) (p0 : Int32) (p1 : Int32) : (Int32) × (Nat → Int32) × (Nat → Int32) × (Nat → Int32) :=
  if L < 30 then
    let x_26 := X3_put 30 w L p0
    let x_38 := X3_put 30 st L p1
    let x_59 := X3_put 60 q (2 * L) ((2 * L) + 1)
    let x_72 := X3_put 60 x_59 ((2 * L) + 1) ((2 * L) + 2)
    ((L + 1), x_26, x_38, x_72)
  else
    (L, w, st, q)
theorem iw_X0_addLeaf_0 : ∀ w ∈ wsX00, w ∈ wsX0_addLeaf := by decide +kernel
set_option maxHeartbeats 4000000 in
set_option maxRecDepth 100000 in
theorem c_X0_addLeaf (l : Launch) (D : va_G) (yI yC yO : ClassId) (B : Nat → Nat) (L : Int32) (w : Nat → Int32) (st : Nat → Int32) (q : Nat → Int32) (p0 : Int32) (p1 : Int32) (sz : Nat) : Met l yX0_addLeaf wsX0_addLeaf ({ frames := 2, cells := 0, slots := 0, locals := 60 }) (va_Pc [.ref (B 1), .int p0, .int p1] (lt_M D yI yC yO (lt_Bk yI B L w st q) sz)) (lt_Qv D (X0_addLeaf L w st q p0 p1) (fun u => lt_Bk yI B u.1 u.2.1 u.2.2.1 u.2.2.2) (va_A (lt_Bk yI B L w st q) sz)) 0 0 (va_A (lt_Bk yI B L w st q) sz) := by
  refine Met.ofW (cc := cX0_addLeaf) (maxL := 4) (ret := none) (by decide) rfl ?_
  intro p e s m args below meth c s₁ B0 hml hv
  obtain ⟨rfl, hsz, hP, hK0, hD0⟩ := hv
  have hx := B0.exec
  have hb := B0.bytes
  have hret := B0.returns
  have hts := atoms_spec (ws := wsX0_addLeaf) B0.pre
  have hown : s.vm.findClass RX0 = some m.cls := findClass_of_methodNamed B0.named
  have hlocks := B0.notSynchronized
  have hK := hK0.1
  have hN := hK0.2
  subst hsz
  have hD := hD0.self (sz := s.heap.size)
  generalize hAe : va_A (lt_Bk yI B L w st q) s.heap.size = A at hD ⊢
  have hA : ∀ q : Nat, s.heap.size ≤ q → A q := fun q h => by rw [← hAe]; exact Or.inr h
  have hS : va_S A s.heap s.heap [] := va_S.rf
  have hP : va_P D vwCl (lt_Bk yI B L w st q) s.heap := hP
  have hD : va_D A (lt_Bk yI B L w st q) := hD
  have hl := lv_entry ([.ref (B 1), .int p0, .int p1]) (n := 4) (Nat.le_of_ble_eq_true rfl)
  rw [lg_entry_eq]
  generalize (lg_sl ([.ref (B 1), .int p0, .int p1]) ++ List.replicate (4 - (lg_sl ([.ref (B 1), .int p0, .int p1])).length) Slot.unset).toArray = ls at hl ⊢
  have hl : lv_has ls 4 [(0, .ref (B 1)), (1, .int p0), (2, .int p1)] := hl
  refine lv_aload_n hx hb dX0_addLeaf_0 rfl (lv_at hl 0 rfl) ?_
  refine va_get (D := D) (ci := 0) (v := .int L) (C := RX0) (T := TX0) (N := 4) hx hb hts iw_X0_addLeaf_0 hown hK hP 0 rfl rfl 3 (by decide) (hts (.fieldLink RX0 26 "LeafTurner$Book" "leaves" "I") (by decide +kernel)) (fun _ h9 => h9) rfl dX0_addLeaf_1 ?_
  refine lv_bipush (v := 30) hx hb dX0_addLeaf_4 (by decide) ?_
  refine lv_icmp_lt (tgt := 10) hx hb dX0_addLeaf_6 (by decide) (fun c_6 => ?_) (fun c_6 => ?_)
  · refine lv_iconst (v := 2) hx hb dX0_addLeaf_10 (by decide) ?_
    refine lv_aload_n hx hb dX0_addLeaf_11 rfl (lv_at hl 0 rfl) ?_
    refine va_get (D := D) (ci := 0) (v := .int L) (C := RX0) (T := TX0) (N := 4) hx hb hts iw_X0_addLeaf_0 hown hK hP 0 rfl rfl 3 (by decide) (hts (.fieldLink RX0 26 "LeafTurner$Book" "leaves" "I") (by decide +kernel)) (fun _ h9 => h9) rfl dX0_addLeaf_12 ?_
    refine lv_imul hx hb dX0_addLeaf_15 ?_
    refine lv_istore_n (lv' := [(3, .int (2 * L)), (0, .ref (B 1)), (1, .int p0), (2, .int p1)]) hx hb dX0_addLeaf_16 rfl hl (by decide) rfl (fun ls hl => ?_)
    refine lv_aload_n hx hb dX0_addLeaf_17 rfl (lv_at hl 1 rfl) ?_
    refine va_get (D := D) (ci := 0) (v := .ref (B 2)) (C := RX0) (T := TX0) (N := 4) hx hb hts iw_X0_addLeaf_0 hown hK hP 0 rfl rfl 0 (by decide) (hts (.fieldLink RX0 14 "LeafTurner$Book" "weights" "LLeafTurner$Numbers;") (by decide +kernel)) (fun _ h9 => h9) rfl dX0_addLeaf_18 ?_
    refine lv_aload_n hx hb dX0_addLeaf_21 rfl (lv_at hl 1 rfl) ?_
    refine va_get (D := D) (ci := 0) (v := .int L) (C := RX0) (T := TX0) (N := 4) hx hb hts iw_X0_addLeaf_0 hown hK hP 0 rfl rfl 3 (by decide) (hts (.fieldLink RX0 26 "LeafTurner$Book" "leaves" "I") (by decide +kernel)) (fun _ h9 => h9) rfl dX0_addLeaf_22 ?_
    refine lv_iload_n hx hb dX0_addLeaf_25 rfl (lv_at hl 2 rfl) ?_
    have hPc := hP.sub (ws' := lt_N2 yI (B 2) (B 3) 30 w) [1, 2] rfl
    have hDc := hD.sub (ws' := lt_N2 yI (B 2) (B 3) 30 w) [1, 2] (by decide) rfl
    refine lt_cWv (wc := lt_N2 yI (B 2) (B 3) 30 w) (wr := [(B 1, .inr (0, [.ref (B 2), .ref (B 4), .ref (B 6), .int L])), (B 4, .inr (3, [.ref (B 5)])), (B 5, .inl (yI, 30, .inl st)), (B 6, .inr (3, [.ref (B 7)])), (B 7, .inl (yI, 60, .inl q))]) (va_runV (As := [.int L, .int p0]) (rest := []) ⟨hx, hb, hml, hown, hts⟩ (c_X3_put l D yI yC yO (B 2) (B 3) 30 w L p0 _ (by decide)) (cwV 2 hts gX0_addLeaf_X3_put rfl rfl rfl (by decide +kernel) ⟨Nat.le_of_ble_eq_true rfl, Nat.le_of_ble_eq_true rfl⟩) (lt_qV hK0 hPc hDc (va_recv hK hPc (ci := 3) (q0 := 0) rfl rfl)) rfl rfl hl.1 rfl (lv_room (Nat.le_of_ble_eq_true rfl)) dX0_addLeaf_26 ⟨Nat.zero_le _, Nat.zero_le _⟩) hP hD hS hA [1, 2] [0, 3, 4, 5, 6] rfl rfl (by decide) (by decide) (fun x_26 e_x_26 H locs hP hD hS => ?_)
    have hP := hP.sub (ws' := lt_Bk yI B L x_26 st q) [0, 5, 6, 1, 2, 3, 4] rfl
    have hD := hD.sub (ws' := lt_Bk yI B L x_26 st q) [0, 5, 6, 1, 2, 3, 4] (by decide) rfl
    refine lv_aload_n hx hb dX0_addLeaf_29 rfl (lv_at hl 1 rfl) ?_
    refine va_get (D := D) (ci := 0) (v := .ref (B 4)) (C := RX0) (T := TX0) (N := 4) hx hb hts iw_X0_addLeaf_0 hown hK hP 0 rfl rfl 1 (by decide) (hts (.fieldLink RX0 20 "LeafTurner$Book" "strengths" "LLeafTurner$Numbers;") (by decide +kernel)) (fun _ h9 => h9) rfl dX0_addLeaf_30 ?_
    refine lv_aload_n hx hb dX0_addLeaf_33 rfl (lv_at hl 1 rfl) ?_
    refine va_get (D := D) (ci := 0) (v := .int L) (C := RX0) (T := TX0) (N := 4) hx hb hts iw_X0_addLeaf_0 hown hK hP 0 rfl rfl 3 (by decide) (hts (.fieldLink RX0 26 "LeafTurner$Book" "leaves" "I") (by decide +kernel)) (fun _ h9 => h9) rfl dX0_addLeaf_34 ?_
    refine lv_iload_n hx hb dX0_addLeaf_37 rfl (lv_at hl 3 rfl) ?_
    have hPc := hP.sub (ws' := lt_N2 yI (B 4) (B 5) 30 st) [3, 4] rfl
    have hDc := hD.sub (ws' := lt_N2 yI (B 4) (B 5) 30 st) [3, 4] (by decide) rfl
    refine lt_cWv (wc := lt_N2 yI (B 4) (B 5) 30 st) (wr := [(B 1, .inr (0, [.ref (B 2), .ref (B 4), .ref (B 6), .int L])), (B 2, .inr (3, [.ref (B 3)])), (B 3, .inl (yI, 30, .inl x_26)), (B 6, .inr (3, [.ref (B 7)])), (B 7, .inl (yI, 60, .inl q))]) (va_runV (As := [.int L, .int p1]) (rest := []) ⟨hx, hb, hml, hown, hts⟩ (c_X3_put l D yI yC yO (B 4) (B 5) 30 st L p1 _ (by decide)) (cwV 2 hts gX0_addLeaf_X3_put rfl rfl rfl (by decide +kernel) ⟨Nat.le_of_ble_eq_true rfl, Nat.le_of_ble_eq_true rfl⟩) (lt_qV hK0 hPc hDc (va_recv hK hPc (ci := 3) (q0 := 0) rfl rfl)) rfl rfl hl.1 rfl (lv_room (Nat.le_of_ble_eq_true rfl)) dX0_addLeaf_38 ⟨Nat.zero_le _, Nat.zero_le _⟩) hP hD hS hA [3, 4] [0, 1, 2, 5, 6] rfl rfl (by decide) (by decide) (fun x_38 e_x_38 H locs hP hD hS => ?_)
    have hP := hP.sub (ws' := lt_Bk yI B L x_26 x_38 q) [0, 1, 2, 5, 6, 3, 4] rfl
    have hD := hD.sub (ws' := lt_Bk yI B L x_26 x_38 q) [0, 1, 2, 5, 6, 3, 4] (by decide) rfl
    refine lv_aload_n hx hb dX0_addLeaf_41 rfl (lv_at hl 1 rfl) ?_
    refine lv_dup hx hb dX0_addLeaf_42 rfl ?_
    refine va_get (D := D) (ci := 0) (v := .int L) (C := RX0) (T := TX0) (N := 4) hx hb hts iw_X0_addLeaf_0 hown hK hP 0 rfl rfl 3 (by decide) (hts (.fieldLink RX0 26 "LeafTurner$Book" "leaves" "I") (by decide +kernel)) (fun _ h9 => h9) rfl dX0_addLeaf_43 ?_
    refine lv_iconst (v := 1) hx hb dX0_addLeaf_46 (by decide) ?_
    refine lv_iadd hx hb dX0_addLeaf_47 ?_
    refine va_put (D := D) (ci := 0) (v := .int (L + 1)) (ty := .int) (C := RX0) (T := TX0) (N := 4) hx hb hts iw_X0_addLeaf_0 tyX0 tyX0_ok nmX0 hown hK hP hD hS 0 rfl rfl 3 (by decide) (hts (.fieldLink RX0 26 "LeafTurner$Book" "leaves" "I") (by decide +kernel)) (fun _ h9 => h9) rfl (by decide +kernel) rfl rfl (Nat.le_of_ble_eq_true rfl) dX0_addLeaf_48 (fun H locs hP hD hS => ?_)
    have hP : va_P D vwCl (lt_Bk yI B (L + 1) x_26 x_38 q) H := hP
    have hD : va_D A (lt_Bk yI B (L + 1) x_26 x_38 q) := hD
    refine lv_aload_n hx hb dX0_addLeaf_51 rfl (lv_at hl 1 rfl) ?_
    refine va_get (D := D) (ci := 0) (v := .ref (B 6)) (C := RX0) (T := TX0) (N := 4) hx hb hts iw_X0_addLeaf_0 hown hK hP 0 rfl rfl 2 (by decide) (hts (.fieldLink RX0 23 "LeafTurner$Book" "printed" "LLeafTurner$Numbers;") (by decide +kernel)) (fun _ h9 => h9) rfl dX0_addLeaf_52 ?_
    refine lv_iload_n hx hb dX0_addLeaf_55 rfl (lv_at hl 0 rfl) ?_
    refine lv_iload_n hx hb dX0_addLeaf_56 rfl (lv_at hl 0 rfl) ?_
    refine lv_iconst (v := 1) hx hb dX0_addLeaf_57 (by decide) ?_
    refine lv_iadd hx hb dX0_addLeaf_58 ?_
    have hPc := hP.sub (ws' := lt_N2 yI (B 6) (B 7) 60 q) [5, 6] rfl
    have hDc := hD.sub (ws' := lt_N2 yI (B 6) (B 7) 60 q) [5, 6] (by decide) rfl
    refine lt_cWv (wc := lt_N2 yI (B 6) (B 7) 60 q) (wr := [(B 1, .inr (0, [.ref (B 2), .ref (B 4), .ref (B 6), .int (L + 1)])), (B 2, .inr (3, [.ref (B 3)])), (B 3, .inl (yI, 30, .inl x_26)), (B 4, .inr (3, [.ref (B 5)])), (B 5, .inl (yI, 30, .inl x_38))]) (va_runV (As := [.int (2 * L), .int ((2 * L) + 1)]) (rest := []) ⟨hx, hb, hml, hown, hts⟩ (c_X3_put l D yI yC yO (B 6) (B 7) 60 q (2 * L) ((2 * L) + 1) _ (by decide)) (cwV 2 hts gX0_addLeaf_X3_put rfl rfl rfl (by decide +kernel) ⟨Nat.le_of_ble_eq_true rfl, Nat.le_of_ble_eq_true rfl⟩) (lt_qV hK0 hPc hDc (va_recv hK hPc (ci := 3) (q0 := 0) rfl rfl)) rfl rfl hl.1 rfl (lv_room (Nat.le_of_ble_eq_true rfl)) dX0_addLeaf_59 ⟨Nat.zero_le _, Nat.zero_le _⟩) hP hD hS hA [5, 6] [0, 1, 2, 3, 4] rfl rfl (by decide) (by decide) (fun x_59 e_x_59 H locs hP hD hS => ?_)
    have hP := hP.sub (ws' := lt_Bk yI B (L + 1) x_26 x_38 x_59) [0, 1, 2, 3, 4, 5, 6] rfl
    have hD := hD.sub (ws' := lt_Bk yI B (L + 1) x_26 x_38 x_59) [0, 1, 2, 3, 4, 5, 6] (by decide) rfl
    refine lv_aload_n hx hb dX0_addLeaf_62 rfl (lv_at hl 1 rfl) ?_
    refine va_get (D := D) (ci := 0) (v := .ref (B 6)) (C := RX0) (T := TX0) (N := 4) hx hb hts iw_X0_addLeaf_0 hown hK hP 0 rfl rfl 2 (by decide) (hts (.fieldLink RX0 23 "LeafTurner$Book" "printed" "LLeafTurner$Numbers;") (by decide +kernel)) (fun _ h9 => h9) rfl dX0_addLeaf_63 ?_
    refine lv_iload_n hx hb dX0_addLeaf_66 rfl (lv_at hl 0 rfl) ?_
    refine lv_iconst (v := 1) hx hb dX0_addLeaf_67 (by decide) ?_
    refine lv_iadd hx hb dX0_addLeaf_68 ?_
    refine lv_iload_n hx hb dX0_addLeaf_69 rfl (lv_at hl 0 rfl) ?_
    refine lv_iconst (v := 2) hx hb dX0_addLeaf_70 (by decide) ?_
    refine lv_iadd hx hb dX0_addLeaf_71 ?_
    have hPc := hP.sub (ws' := lt_N2 yI (B 6) (B 7) 60 x_59) [5, 6] rfl
    have hDc := hD.sub (ws' := lt_N2 yI (B 6) (B 7) 60 x_59) [5, 6] (by decide) rfl
    refine lt_cWv (wc := lt_N2 yI (B 6) (B 7) 60 x_59) (wr := [(B 1, .inr (0, [.ref (B 2), .ref (B 4), .ref (B 6), .int (L + 1)])), (B 2, .inr (3, [.ref (B 3)])), (B 3, .inl (yI, 30, .inl x_26)), (B 4, .inr (3, [.ref (B 5)])), (B 5, .inl (yI, 30, .inl x_38))]) (va_runV (As := [.int ((2 * L) + 1), .int ((2 * L) + 2)]) (rest := []) ⟨hx, hb, hml, hown, hts⟩ (c_X3_put l D yI yC yO (B 6) (B 7) 60 x_59 ((2 * L) + 1) ((2 * L) + 2) _ (by decide)) (cwV 2 hts gX0_addLeaf_X3_put rfl rfl rfl (by decide +kernel) ⟨Nat.le_of_ble_eq_true rfl, Nat.le_of_ble_eq_true rfl⟩) (lt_qV hK0 hPc hDc (va_recv hK hPc (ci := 3) (q0 := 0) rfl rfl)) rfl rfl hl.1 rfl (lv_room (Nat.le_of_ble_eq_true rfl)) dX0_addLeaf_72 ⟨Nat.zero_le _, Nat.zero_le _⟩) hP hD hS hA [5, 6] [0, 1, 2, 3, 4] rfl rfl (by decide) (by decide) (fun x_72 e_x_72 H locs hP hD hS => ?_)
    have hP := hP.sub (ws' := lt_Bk yI B (L + 1) x_26 x_38 x_72) [0, 1, 2, 3, 4, 5, 6] rfl
    have hD := hD.sub (ws' := lt_Bk yI B (L + 1) x_26 x_38 x_72) [0, 1, 2, 3, 4, 5, 6] (by decide) rfl
    exact W.vret hx hb hret (fun t ht hW => ⟨⟨((L + 1), x_26, x_38, x_72), rfl, (by subst e_x_72 e_x_59 e_x_38 e_x_26; exact (Eq.symm (Eq.trans (if_pos c_6) rfl))), by rw [ht]; exact hP, hD⟩, hS.F ht⟩) hS.2.2 dX0_addLeaf_75
  · exact W.vret hx hb hret (fun t ht hW => ⟨⟨(L, w, st, q), rfl, (Eq.symm (Eq.trans (if_neg c_6) rfl)), by rw [ht]; exact hP, hD⟩, hS.F ht⟩) hS.2.2 dX0_addLeaf_9

def X0_printNothingOnLast (L : Int32) (w : Nat → Int32) (st : Nat → Int32) (q : Nat → Int32) : (Nat → Int32) :=
  let r_5 := X0_pages L w st q
  let x_12 := X3_put 60 q (r_5 - 2) (-5)
  let r_20 := X0_pages L w st x_12
  let x_27 := X3_put 60 x_12 (r_20 - 1) (-5)
  (x_27)
theorem iw_X0_printNothingOnLast_0 : ∀ w ∈ wsX00, w ∈ wsX0_printNothingOnLast := by decide +kernel
set_option maxHeartbeats 4000000 in
set_option maxRecDepth 100000 in
theorem c_X0_printNothingOnLast (l : Launch) (D : va_G) (yI yC yO : ClassId) (B : Nat → Nat) (L : Int32) (w : Nat → Int32) (st : Nat → Int32) (q : Nat → Int32) (sz : Nat) : Met l yX0_printNothingOnLast wsX0_printNothingOnLast ({ frames := 2, cells := 0, slots := 0, locals := 60 }) (va_Pc [.ref (B 1)] (lt_M D yI yC yO (lt_Bk yI B L w st q) sz)) (lt_Qv D (X0_printNothingOnLast L w st q) (fun u => lt_Bk yI B L w st u) (va_A (lt_Bk yI B L w st q) sz)) 0 0 (va_A (lt_Bk yI B L w st q) sz) := by
  refine Met.ofW (cc := cX0_printNothingOnLast) (maxL := 1) (ret := none) (by decide) rfl ?_
  intro p e s m args below meth c s₁ B0 hml hv
  obtain ⟨rfl, hsz, hP, hK0, hD0⟩ := hv
  have hx := B0.exec
  have hb := B0.bytes
  have hret := B0.returns
  have hts := atoms_spec (ws := wsX0_printNothingOnLast) B0.pre
  have hown : s.vm.findClass RX0 = some m.cls := findClass_of_methodNamed B0.named
  have hlocks := B0.notSynchronized
  have hK := hK0.1
  have hN := hK0.2
  subst hsz
  have hD := hD0.self (sz := s.heap.size)
  generalize hAe : va_A (lt_Bk yI B L w st q) s.heap.size = A at hD ⊢
  have hA : ∀ q : Nat, s.heap.size ≤ q → A q := fun q h => by rw [← hAe]; exact Or.inr h
  have hS : va_S A s.heap s.heap [] := va_S.rf
  have hP : va_P D vwCl (lt_Bk yI B L w st q) s.heap := hP
  have hD : va_D A (lt_Bk yI B L w st q) := hD
  have hl := lv_entry ([.ref (B 1)]) (n := 1) (Nat.le_of_ble_eq_true rfl)
  rw [lg_entry_eq]
  generalize (lg_sl ([.ref (B 1)]) ++ List.replicate (1 - (lg_sl ([.ref (B 1)])).length) Slot.unset).toArray = ls at hl ⊢
  have hl : lv_has ls 1 [(0, .ref (B 1))] := hl
  refine lv_aload_n hx hb dX0_printNothingOnLast_0 rfl (lv_at hl 0 rfl) ?_
  refine va_get (D := D) (ci := 0) (v := .ref (B 6)) (C := RX0) (T := TX0) (N := 4) hx hb hts iw_X0_printNothingOnLast_0 hown hK hP 0 rfl rfl 2 (by decide) (hts (.fieldLink RX0 23 "LeafTurner$Book" "printed" "LLeafTurner$Numbers;") (by decide +kernel)) (fun _ h9 => h9) rfl dX0_printNothingOnLast_1 ?_
  refine lv_aload_n hx hb dX0_printNothingOnLast_4 rfl (lv_at hl 0 rfl) ?_
  have hPc := hP.sub (ws' := lt_Bk yI B L w st q) [0, 1, 2, 3, 4, 5, 6] rfl
  refine lt_cR (va_runV (As := []) (rest := [.ref (B 6)]) ⟨hx, hb, hml, hown, hts⟩ (c_X0_pages l D yI yC yO B L w st q ) (cwV 0 hts gX0_printNothingOnLast_X0_pages rfl rfl rfl (by decide +kernel) ⟨Nat.le_of_ble_eq_true rfl, Nat.le_of_ble_eq_true rfl⟩) (lt_pV hK0 hPc (va_recv hK hPc (ci := 0) (q0 := 0) rfl rfl)) rfl rfl hl.1 rfl (lv_room (Nat.le_of_ble_eq_true rfl)) dX0_printNothingOnLast_5 ⟨Nat.zero_le _, Nat.zero_le _⟩) (fun r_5 e_r_5 => ?_)
  refine lv_iconst (v := 2) hx hb dX0_printNothingOnLast_8 (by decide) ?_
  refine lv_isub hx hb dX0_printNothingOnLast_9 ?_
  refine lv_bipush (v := (-5)) hx hb dX0_printNothingOnLast_10 (by decide) ?_
  have hPc := hP.sub (ws' := lt_N2 yI (B 6) (B 7) 60 q) [5, 6] rfl
  have hDc := hD.sub (ws' := lt_N2 yI (B 6) (B 7) 60 q) [5, 6] (by decide) rfl
  refine lt_cWv (wc := lt_N2 yI (B 6) (B 7) 60 q) (wr := [(B 1, .inr (0, [.ref (B 2), .ref (B 4), .ref (B 6), .int L])), (B 2, .inr (3, [.ref (B 3)])), (B 3, .inl (yI, 30, .inl w)), (B 4, .inr (3, [.ref (B 5)])), (B 5, .inl (yI, 30, .inl st))]) (va_runV (As := [.int (r_5 - 2), .int (-5)]) (rest := []) ⟨hx, hb, hml, hown, hts⟩ (c_X3_put l D yI yC yO (B 6) (B 7) 60 q (r_5 - 2) (-5) _ (by decide)) (cwV 2 hts gX0_printNothingOnLast_X3_put rfl rfl rfl (by decide +kernel) ⟨Nat.le_of_ble_eq_true rfl, Nat.le_of_ble_eq_true rfl⟩) (lt_qV hK0 hPc hDc (va_recv hK hPc (ci := 3) (q0 := 0) rfl rfl)) rfl rfl hl.1 rfl (lv_room (Nat.le_of_ble_eq_true rfl)) dX0_printNothingOnLast_12 ⟨Nat.zero_le _, Nat.zero_le _⟩) hP hD hS hA [5, 6] [0, 1, 2, 3, 4] rfl rfl (by decide) (by decide) (fun x_12 e_x_12 H locs hP hD hS => ?_)
  have hP := hP.sub (ws' := lt_Bk yI B L w st x_12) [0, 1, 2, 3, 4, 5, 6] rfl
  have hD := hD.sub (ws' := lt_Bk yI B L w st x_12) [0, 1, 2, 3, 4, 5, 6] (by decide) rfl
  refine lv_aload_n hx hb dX0_printNothingOnLast_15 rfl (lv_at hl 0 rfl) ?_
  refine va_get (D := D) (ci := 0) (v := .ref (B 6)) (C := RX0) (T := TX0) (N := 4) hx hb hts iw_X0_printNothingOnLast_0 hown hK hP 0 rfl rfl 2 (by decide) (hts (.fieldLink RX0 23 "LeafTurner$Book" "printed" "LLeafTurner$Numbers;") (by decide +kernel)) (fun _ h9 => h9) rfl dX0_printNothingOnLast_16 ?_
  refine lv_aload_n hx hb dX0_printNothingOnLast_19 rfl (lv_at hl 0 rfl) ?_
  have hPc := hP.sub (ws' := lt_Bk yI B L w st x_12) [0, 1, 2, 3, 4, 5, 6] rfl
  refine lt_cR (va_runV (As := []) (rest := [.ref (B 6)]) ⟨hx, hb, hml, hown, hts⟩ (c_X0_pages l D yI yC yO B L w st x_12 ) (cwV 0 hts gX0_printNothingOnLast_X0_pages rfl rfl rfl (by decide +kernel) ⟨Nat.le_of_ble_eq_true rfl, Nat.le_of_ble_eq_true rfl⟩) (lt_pV hK0 hPc (va_recv hK hPc (ci := 0) (q0 := 0) rfl rfl)) rfl rfl hl.1 rfl (lv_room (Nat.le_of_ble_eq_true rfl)) dX0_printNothingOnLast_20 ⟨Nat.zero_le _, Nat.zero_le _⟩) (fun r_20 e_r_20 => ?_)
  refine lv_iconst (v := 1) hx hb dX0_printNothingOnLast_23 (by decide) ?_
  refine lv_isub hx hb dX0_printNothingOnLast_24 ?_
  refine lv_bipush (v := (-5)) hx hb dX0_printNothingOnLast_25 (by decide) ?_
  have hPc := hP.sub (ws' := lt_N2 yI (B 6) (B 7) 60 x_12) [5, 6] rfl
  have hDc := hD.sub (ws' := lt_N2 yI (B 6) (B 7) 60 x_12) [5, 6] (by decide) rfl
  refine lt_cWv (wc := lt_N2 yI (B 6) (B 7) 60 x_12) (wr := [(B 1, .inr (0, [.ref (B 2), .ref (B 4), .ref (B 6), .int L])), (B 2, .inr (3, [.ref (B 3)])), (B 3, .inl (yI, 30, .inl w)), (B 4, .inr (3, [.ref (B 5)])), (B 5, .inl (yI, 30, .inl st))]) (va_runV (As := [.int (r_20 - 1), .int (-5)]) (rest := []) ⟨hx, hb, hml, hown, hts⟩ (c_X3_put l D yI yC yO (B 6) (B 7) 60 x_12 (r_20 - 1) (-5) _ (by decide)) (cwV 2 hts gX0_printNothingOnLast_X3_put rfl rfl rfl (by decide +kernel) ⟨Nat.le_of_ble_eq_true rfl, Nat.le_of_ble_eq_true rfl⟩) (lt_qV hK0 hPc hDc (va_recv hK hPc (ci := 3) (q0 := 0) rfl rfl)) rfl rfl hl.1 rfl (lv_room (Nat.le_of_ble_eq_true rfl)) dX0_printNothingOnLast_27 ⟨Nat.zero_le _, Nat.zero_le _⟩) hP hD hS hA [5, 6] [0, 1, 2, 3, 4] rfl rfl (by decide) (by decide) (fun x_27 e_x_27 H locs hP hD hS => ?_)
  have hP := hP.sub (ws' := lt_Bk yI B L w st x_27) [0, 1, 2, 3, 4, 5, 6] rfl
  have hD := hD.sub (ws' := lt_Bk yI B L w st x_27) [0, 1, 2, 3, 4, 5, 6] (by decide) rfl
  exact W.vret hx hb hret (fun t ht hW => ⟨⟨(x_27), rfl, (by subst e_x_27 e_r_20 e_x_12 e_r_5; exact (Eq.symm rfl)), by rw [ht]; exact hP, hD⟩, hS.F ht⟩) hS.2.2 dX0_printNothingOnLast_30

def X0_printTooMuchOnLast (L : Int32) (w : Nat → Int32) (st : Nat → Int32) (q : Nat → Int32) : (Nat → Int32) :=
  let r_5 := X0_pages L w st q
  let r_11 := X0_pages L w st q
  let x_16 := X3_put 60 q (r_5 - 2) (r_11 + 1)
  let r_24 := X0_pages L w st x_16
  let r_30 := X0_pages L w st x_16
  let x_35 := X3_put 60 x_16 (r_24 - 1) (r_30 + 2)
  (x_35)
theorem iw_X0_printTooMuchOnLast_0 : ∀ w ∈ wsX00, w ∈ wsX0_printTooMuchOnLast := by decide +kernel
set_option maxHeartbeats 4000000 in
set_option maxRecDepth 100000 in
theorem c_X0_printTooMuchOnLast (l : Launch) (D : va_G) (yI yC yO : ClassId) (B : Nat → Nat) (L : Int32) (w : Nat → Int32) (st : Nat → Int32) (q : Nat → Int32) (sz : Nat) : Met l yX0_printTooMuchOnLast wsX0_printTooMuchOnLast ({ frames := 2, cells := 0, slots := 0, locals := 60 }) (va_Pc [.ref (B 1)] (lt_M D yI yC yO (lt_Bk yI B L w st q) sz)) (lt_Qv D (X0_printTooMuchOnLast L w st q) (fun u => lt_Bk yI B L w st u) (va_A (lt_Bk yI B L w st q) sz)) 0 0 (va_A (lt_Bk yI B L w st q) sz) := by
  refine Met.ofW (cc := cX0_printTooMuchOnLast) (maxL := 1) (ret := none) (by decide) rfl ?_
  intro p e s m args below meth c s₁ B0 hml hv
  obtain ⟨rfl, hsz, hP, hK0, hD0⟩ := hv
  have hx := B0.exec
  have hb := B0.bytes
  have hret := B0.returns
  have hts := atoms_spec (ws := wsX0_printTooMuchOnLast) B0.pre
  have hown : s.vm.findClass RX0 = some m.cls := findClass_of_methodNamed B0.named
  have hlocks := B0.notSynchronized
  have hK := hK0.1
  have hN := hK0.2
  subst hsz
  have hD := hD0.self (sz := s.heap.size)
  generalize hAe : va_A (lt_Bk yI B L w st q) s.heap.size = A at hD ⊢
  have hA : ∀ q : Nat, s.heap.size ≤ q → A q := fun q h => by rw [← hAe]; exact Or.inr h
  have hS : va_S A s.heap s.heap [] := va_S.rf
  have hP : va_P D vwCl (lt_Bk yI B L w st q) s.heap := hP
  have hD : va_D A (lt_Bk yI B L w st q) := hD
  have hl := lv_entry ([.ref (B 1)]) (n := 1) (Nat.le_of_ble_eq_true rfl)
  rw [lg_entry_eq]
  generalize (lg_sl ([.ref (B 1)]) ++ List.replicate (1 - (lg_sl ([.ref (B 1)])).length) Slot.unset).toArray = ls at hl ⊢
  have hl : lv_has ls 1 [(0, .ref (B 1))] := hl
  refine lv_aload_n hx hb dX0_printTooMuchOnLast_0 rfl (lv_at hl 0 rfl) ?_
  refine va_get (D := D) (ci := 0) (v := .ref (B 6)) (C := RX0) (T := TX0) (N := 4) hx hb hts iw_X0_printTooMuchOnLast_0 hown hK hP 0 rfl rfl 2 (by decide) (hts (.fieldLink RX0 23 "LeafTurner$Book" "printed" "LLeafTurner$Numbers;") (by decide +kernel)) (fun _ h9 => h9) rfl dX0_printTooMuchOnLast_1 ?_
  refine lv_aload_n hx hb dX0_printTooMuchOnLast_4 rfl (lv_at hl 0 rfl) ?_
  have hPc := hP.sub (ws' := lt_Bk yI B L w st q) [0, 1, 2, 3, 4, 5, 6] rfl
  refine lt_cR (va_runV (As := []) (rest := [.ref (B 6)]) ⟨hx, hb, hml, hown, hts⟩ (c_X0_pages l D yI yC yO B L w st q ) (cwV 0 hts gX0_printTooMuchOnLast_X0_pages rfl rfl rfl (by decide +kernel) ⟨Nat.le_of_ble_eq_true rfl, Nat.le_of_ble_eq_true rfl⟩) (lt_pV hK0 hPc (va_recv hK hPc (ci := 0) (q0 := 0) rfl rfl)) rfl rfl hl.1 rfl (lv_room (Nat.le_of_ble_eq_true rfl)) dX0_printTooMuchOnLast_5 ⟨Nat.zero_le _, Nat.zero_le _⟩) (fun r_5 e_r_5 => ?_)
  refine lv_iconst (v := 2) hx hb dX0_printTooMuchOnLast_8 (by decide) ?_
  refine lv_isub hx hb dX0_printTooMuchOnLast_9 ?_
  refine lv_aload_n hx hb dX0_printTooMuchOnLast_10 rfl (lv_at hl 0 rfl) ?_
  have hPc := hP.sub (ws' := lt_Bk yI B L w st q) [0, 1, 2, 3, 4, 5, 6] rfl
  refine lt_cR (va_runV (As := []) (rest := [.int (r_5 - 2), .ref (B 6)]) ⟨hx, hb, hml, hown, hts⟩ (c_X0_pages l D yI yC yO B L w st q ) (cwV 0 hts gX0_printTooMuchOnLast_X0_pages rfl rfl rfl (by decide +kernel) ⟨Nat.le_of_ble_eq_true rfl, Nat.le_of_ble_eq_true rfl⟩) (lt_pV hK0 hPc (va_recv hK hPc (ci := 0) (q0 := 0) rfl rfl)) rfl rfl hl.1 rfl (lv_room (Nat.le_of_ble_eq_true rfl)) dX0_printTooMuchOnLast_11 ⟨Nat.zero_le _, Nat.zero_le _⟩) (fun r_11 e_r_11 => ?_)
  refine lv_iconst (v := 1) hx hb dX0_printTooMuchOnLast_14 (by decide) ?_
  refine lv_iadd hx hb dX0_printTooMuchOnLast_15 ?_
  have hPc := hP.sub (ws' := lt_N2 yI (B 6) (B 7) 60 q) [5, 6] rfl
  have hDc := hD.sub (ws' := lt_N2 yI (B 6) (B 7) 60 q) [5, 6] (by decide) rfl
  refine lt_cWv (wc := lt_N2 yI (B 6) (B 7) 60 q) (wr := [(B 1, .inr (0, [.ref (B 2), .ref (B 4), .ref (B 6), .int L])), (B 2, .inr (3, [.ref (B 3)])), (B 3, .inl (yI, 30, .inl w)), (B 4, .inr (3, [.ref (B 5)])), (B 5, .inl (yI, 30, .inl st))]) (va_runV (As := [.int (r_5 - 2), .int (r_11 + 1)]) (rest := []) ⟨hx, hb, hml, hown, hts⟩ (c_X3_put l D yI yC yO (B 6) (B 7) 60 q (r_5 - 2) (r_11 + 1) _ (by decide)) (cwV 2 hts gX0_printTooMuchOnLast_X3_put rfl rfl rfl (by decide +kernel) ⟨Nat.le_of_ble_eq_true rfl, Nat.le_of_ble_eq_true rfl⟩) (lt_qV hK0 hPc hDc (va_recv hK hPc (ci := 3) (q0 := 0) rfl rfl)) rfl rfl hl.1 rfl (lv_room (Nat.le_of_ble_eq_true rfl)) dX0_printTooMuchOnLast_16 ⟨Nat.zero_le _, Nat.zero_le _⟩) hP hD hS hA [5, 6] [0, 1, 2, 3, 4] rfl rfl (by decide) (by decide) (fun x_16 e_x_16 H locs hP hD hS => ?_)
  have hP := hP.sub (ws' := lt_Bk yI B L w st x_16) [0, 1, 2, 3, 4, 5, 6] rfl
  have hD := hD.sub (ws' := lt_Bk yI B L w st x_16) [0, 1, 2, 3, 4, 5, 6] (by decide) rfl
  refine lv_aload_n hx hb dX0_printTooMuchOnLast_19 rfl (lv_at hl 0 rfl) ?_
  refine va_get (D := D) (ci := 0) (v := .ref (B 6)) (C := RX0) (T := TX0) (N := 4) hx hb hts iw_X0_printTooMuchOnLast_0 hown hK hP 0 rfl rfl 2 (by decide) (hts (.fieldLink RX0 23 "LeafTurner$Book" "printed" "LLeafTurner$Numbers;") (by decide +kernel)) (fun _ h9 => h9) rfl dX0_printTooMuchOnLast_20 ?_
  refine lv_aload_n hx hb dX0_printTooMuchOnLast_23 rfl (lv_at hl 0 rfl) ?_
  have hPc := hP.sub (ws' := lt_Bk yI B L w st x_16) [0, 1, 2, 3, 4, 5, 6] rfl
  refine lt_cR (va_runV (As := []) (rest := [.ref (B 6)]) ⟨hx, hb, hml, hown, hts⟩ (c_X0_pages l D yI yC yO B L w st x_16 ) (cwV 0 hts gX0_printTooMuchOnLast_X0_pages rfl rfl rfl (by decide +kernel) ⟨Nat.le_of_ble_eq_true rfl, Nat.le_of_ble_eq_true rfl⟩) (lt_pV hK0 hPc (va_recv hK hPc (ci := 0) (q0 := 0) rfl rfl)) rfl rfl hl.1 rfl (lv_room (Nat.le_of_ble_eq_true rfl)) dX0_printTooMuchOnLast_24 ⟨Nat.zero_le _, Nat.zero_le _⟩) (fun r_24 e_r_24 => ?_)
  refine lv_iconst (v := 1) hx hb dX0_printTooMuchOnLast_27 (by decide) ?_
  refine lv_isub hx hb dX0_printTooMuchOnLast_28 ?_
  refine lv_aload_n hx hb dX0_printTooMuchOnLast_29 rfl (lv_at hl 0 rfl) ?_
  have hPc := hP.sub (ws' := lt_Bk yI B L w st x_16) [0, 1, 2, 3, 4, 5, 6] rfl
  refine lt_cR (va_runV (As := []) (rest := [.int (r_24 - 1), .ref (B 6)]) ⟨hx, hb, hml, hown, hts⟩ (c_X0_pages l D yI yC yO B L w st x_16 ) (cwV 0 hts gX0_printTooMuchOnLast_X0_pages rfl rfl rfl (by decide +kernel) ⟨Nat.le_of_ble_eq_true rfl, Nat.le_of_ble_eq_true rfl⟩) (lt_pV hK0 hPc (va_recv hK hPc (ci := 0) (q0 := 0) rfl rfl)) rfl rfl hl.1 rfl (lv_room (Nat.le_of_ble_eq_true rfl)) dX0_printTooMuchOnLast_30 ⟨Nat.zero_le _, Nat.zero_le _⟩) (fun r_30 e_r_30 => ?_)
  refine lv_iconst (v := 2) hx hb dX0_printTooMuchOnLast_33 (by decide) ?_
  refine lv_iadd hx hb dX0_printTooMuchOnLast_34 ?_
  have hPc := hP.sub (ws' := lt_N2 yI (B 6) (B 7) 60 x_16) [5, 6] rfl
  have hDc := hD.sub (ws' := lt_N2 yI (B 6) (B 7) 60 x_16) [5, 6] (by decide) rfl
  refine lt_cWv (wc := lt_N2 yI (B 6) (B 7) 60 x_16) (wr := [(B 1, .inr (0, [.ref (B 2), .ref (B 4), .ref (B 6), .int L])), (B 2, .inr (3, [.ref (B 3)])), (B 3, .inl (yI, 30, .inl w)), (B 4, .inr (3, [.ref (B 5)])), (B 5, .inl (yI, 30, .inl st))]) (va_runV (As := [.int (r_24 - 1), .int (r_30 + 2)]) (rest := []) ⟨hx, hb, hml, hown, hts⟩ (c_X3_put l D yI yC yO (B 6) (B 7) 60 x_16 (r_24 - 1) (r_30 + 2) _ (by decide)) (cwV 2 hts gX0_printTooMuchOnLast_X3_put rfl rfl rfl (by decide +kernel) ⟨Nat.le_of_ble_eq_true rfl, Nat.le_of_ble_eq_true rfl⟩) (lt_qV hK0 hPc hDc (va_recv hK hPc (ci := 3) (q0 := 0) rfl rfl)) rfl rfl hl.1 rfl (lv_room (Nat.le_of_ble_eq_true rfl)) dX0_printTooMuchOnLast_35 ⟨Nat.zero_le _, Nat.zero_le _⟩) hP hD hS hA [5, 6] [0, 1, 2, 3, 4] rfl rfl (by decide) (by decide) (fun x_35 e_x_35 H locs hP hD hS => ?_)
  have hP := hP.sub (ws' := lt_Bk yI B L w st x_35) [0, 1, 2, 3, 4, 5, 6] rfl
  have hD := hD.sub (ws' := lt_Bk yI B L w st x_35) [0, 1, 2, 3, 4, 5, 6] (by decide) rfl
  exact W.vret hx hb hret (fun t ht hW => ⟨⟨(x_35), rfl, (by subst e_x_35 e_r_30 e_r_24 e_x_16 e_r_11 e_r_5; exact (Eq.symm rfl)), by rw [ht]; exact hP, hD⟩, hS.F ht⟩) hS.2.2 dX0_printTooMuchOnLast_38

def X0_layBySeed_L13 (L : Int32) (w : Nat → Int32) (st : Nat → Int32) (q : Nat → Int32) (p0 : Int32) (p1 : Int32) : Nat → (Int32) → (Int32) → (Int32) → (Int32) → (Nat → Int32) → (Nat → Int32) → (Nat → Int32) → Int32 × ((Int32) × (Nat → Int32) × (Nat → Int32) × (Nat → Int32))
  | 0, _, _, _, _, _, _, _ => (0, (L, w, st, q))
  | fu + 1, v3, v4, v5, L0, w0, st0, q0 =>
    if p0 ≤ v5 then
      (v4, (L0, w0, st0, q0))
    else
      let v_32 := ((421 * v3) + 1663) - ((421 * v3) + 1663) / 10000 * 10000
      let v_38 := 1 + (v_32 - v_32 / 5 * 5)
      let v_47 := (v_32 / 10) - (v_32 / 10) / 10 * 10
      if 6 ≤ v_47 then
        let x_65 := X0_addLeaf L0 w0 st0 q0 v_38 v_47
        if ((v_32 / 100) - (v_32 / 100) / 8 * 8) = 0 then
          let x_79 := X0_printNothingOnLast x_65.1 x_65.2.1 x_65.2.2.1 x_65.2.2.2
          X0_layBySeed_L13 L w st q p0 p1 fu v_32 (v4 + v_38) (v5 + 1) x_65.1 x_65.2.1 x_65.2.2.1 x_79
        else
          X0_layBySeed_L13 L w st q p0 p1 fu v_32 (v4 + v_38) (v5 + 1) x_65.1 x_65.2.1 x_65.2.2.1 x_65.2.2.2
      else
        let x_65 := X0_addLeaf L0 w0 st0 q0 v_38 0
        if ((v_32 / 100) - (v_32 / 100) / 8 * 8) = 0 then
          let x_79 := X0_printNothingOnLast x_65.1 x_65.2.1 x_65.2.2.1 x_65.2.2.2
          X0_layBySeed_L13 L w st q p0 p1 fu v_32 (v4 + v_38) (v5 + 1) x_65.1 x_65.2.1 x_65.2.2.1 x_79
        else
          X0_layBySeed_L13 L w st q p0 p1 fu v_32 (v4 + v_38) (v5 + 1) x_65.1 x_65.2.1 x_65.2.2.1 x_65.2.2.2
def X0_layBySeed (L : Int32) (w : Nat → Int32) (st : Nat → Int32) (q : Nat → Int32) (p0 : Int32) (p1 : Int32) : Int32 × ((Int32) × (Nat → Int32) × (Nat → Int32) × (Nat → Int32)) :=
  X0_layBySeed_L13 L w st q p0 p1 (((p0 : Int32).toInt - (0 : Int32).toInt).toNat + 1) p1 0 0 0 w st q
theorem iw_X0_layBySeed_0 : ∀ w ∈ wsX00, w ∈ wsX0_layBySeed := by decide +kernel
set_option maxHeartbeats 4000000 in
set_option maxRecDepth 100000 in
theorem c_X0_layBySeed (l : Launch) (D : va_G) (yI yC yO : ClassId) (B : Nat → Nat) (L : Int32) (w : Nat → Int32) (st : Nat → Int32) (q : Nat → Int32) (p0 : Int32) (p1 : Int32) (sz : Nat) : Met l yX0_layBySeed wsX0_layBySeed ({ frames := 3, cells := 0, slots := 0, locals := 90 }) (va_Pc [.ref (B 1), .int p0, .int p1] (lt_M D yI yC yO (lt_Bk yI B L w st q) sz)) (lt_Qi D (X0_layBySeed L w st q p0 p1) (fun u => lt_Bk yI B u.1 u.2.1 u.2.2.1 u.2.2.2) (va_A (lt_Bk yI B L w st q) sz)) 0 0 (va_A (lt_Bk yI B L w st q) sz) := by
  refine Met.ofW (cc := cX0_layBySeed) (maxL := 8) (ret := (some .int)) (by decide) rfl ?_
  intro p e s m args below meth c s₁ B0 hml hv
  obtain ⟨rfl, hsz, hP, hK0, hD0⟩ := hv
  have hx := B0.exec
  have hb := B0.bytes
  have hret := B0.returns
  have hts := atoms_spec (ws := wsX0_layBySeed) B0.pre
  have hown : s.vm.findClass RX0 = some m.cls := findClass_of_methodNamed B0.named
  have hlocks := B0.notSynchronized
  have hK := hK0.1
  have hN := hK0.2
  subst hsz
  have hD := hD0.self (sz := s.heap.size)
  generalize hAe : va_A (lt_Bk yI B L w st q) s.heap.size = A at hD ⊢
  have hA : ∀ q : Nat, s.heap.size ≤ q → A q := fun q h => by rw [← hAe]; exact Or.inr h
  have hS : va_S A s.heap s.heap [] := va_S.rf
  have hP : va_P D vwCl (lt_Bk yI B L w st q) s.heap := hP
  have hD : va_D A (lt_Bk yI B L w st q) := hD
  have hl := lv_entry ([.ref (B 1), .int p0, .int p1]) (n := 8) (Nat.le_of_ble_eq_true rfl)
  rw [lg_entry_eq]
  generalize (lg_sl ([.ref (B 1), .int p0, .int p1]) ++ List.replicate (8 - (lg_sl ([.ref (B 1), .int p0, .int p1])).length) Slot.unset).toArray = ls at hl ⊢
  have hl : lv_has ls 8 [(0, .ref (B 1)), (1, .int p0), (2, .int p1)] := hl
  refine lv_aload_n hx hb dX0_layBySeed_0 rfl (lv_at hl 0 rfl) ?_
  refine lv_iconst (v := 0) hx hb dX0_layBySeed_1 (by decide) ?_
  refine va_put (D := D) (ci := 0) (v := .int 0) (ty := .int) (C := RX0) (T := TX0) (N := 4) hx hb hts iw_X0_layBySeed_0 tyX0 tyX0_ok nmX0 hown hK hP hD hS 0 rfl rfl 3 (by decide) (hts (.fieldLink RX0 26 "LeafTurner$Book" "leaves" "I") (by decide +kernel)) (fun _ h9 => h9) rfl (by decide +kernel) rfl rfl (Nat.le_of_ble_eq_true rfl) dX0_layBySeed_2 (fun H locs hP hD hS => ?_)
  have hP : va_P D vwCl (lt_Bk yI B 0 w st q) H := hP
  have hD : va_D A (lt_Bk yI B 0 w st q) := hD
  refine lv_iload_n hx hb dX0_layBySeed_5 rfl (lv_at hl 2 rfl) ?_
  refine lv_istore_n (lv' := [(3, .int p1), (0, .ref (B 1)), (1, .int p0), (2, .int p1)]) hx hb dX0_layBySeed_6 rfl hl (by decide) rfl (fun ls hl => ?_)
  refine lv_iconst (v := 0) hx hb dX0_layBySeed_7 (by decide) ?_
  refine lv_istore (lv' := [(4, .int 0), (3, .int p1), (0, .ref (B 1)), (1, .int p0), (2, .int p1)]) hx hb dX0_layBySeed_8 hl (by decide) rfl (fun ls hl => ?_)
  refine lv_iconst (v := 0) hx hb dX0_layBySeed_10 (by decide) ?_
  refine lv_istore (lv' := [(5, .int 0), (4, .int 0), (3, .int p1), (0, .ref (B 1)), (1, .int p0), (2, .int p1)]) hx hb dX0_layBySeed_11 hl (by decide) rfl (fun ls hl => ?_)
  refine lt_loop (σ := (Int32) × (Int32) × (Int32) × (Int32) × (Nat → Int32) × (Nat → Int32) × (Nat → Int32)) (fun fu (x : (Int32) × (Int32) × (Int32) × (Int32) × (Nat → Int32) × (Nat → Int32) × (Nat → Int32)) H locs ls => ∃ (v3 : Int32) (v4 : Int32) (v5 : Int32) (L0 : Int32) (w0 : Nat → Int32) (st0 : Nat → Int32) (q0 : Nat → Int32), x = (v3, v4, v5, L0, w0, st0, q0) ∧ lt_fu fu (p0) (v5) ∧ X0_layBySeed_L13 L w st q p0 p1 fu v3 v4 v5 L0 w0 st0 q0 = X0_layBySeed L w st q p0 p1 ∧ va_P D vwCl (lt_Bk yI B L0 w0 st0 q0) H ∧ va_D A (lt_Bk yI B L0 w0 st0 q0) ∧ va_S A s.heap H locs ∧ lv_has ls 8 [(5, .int v5), (4, .int v4), (3, .int v3), (0, .ref (B 1)), (1, .int p0), (2, .int p1)]) ?_ ?_ (((p0 : Int32).toInt - (0 : Int32).toInt).toNat + 1) (p1, 0, 0, 0, w, st, q) _ _ _ ⟨p1, 0, 0, 0, w, st, q, rfl, lt_fuI _ _, (Eq.symm rfl), hP, hD, hS, (lv_sub hl [0, 1, 2, 3, 4, 5] rfl)⟩
  · rintro x H locs ls ⟨_, _, _, _, _, _, _, -, hF, -⟩
    exact lt_fu0 hF
  · rintro fu ih x H locs ls ⟨v3, v4, v5, L0, w0, st0, q0, rfl, hF, hT, hP, hD, hS, hl⟩
    refine lv_iload hx hb dX0_layBySeed_13 (lv_at hl 0 rfl) ?_
    refine lv_iload_n hx hb dX0_layBySeed_15 rfl (lv_at hl 4 rfl) ?_
    refine lv_icmp_ge (tgt := 95) hx hb dX0_layBySeed_16 (by decide) (fun c_16 => ?_) (fun c_16 => ?_)
    · refine lv_iload hx hb dX0_layBySeed_95 (lv_at hl 1 rfl) ?_
      exact W.iret (v := v4) hx hb hret (fun t ht hW => ⟨⟨v4, (L0, w0, st0, q0), rfl, (Eq.trans (Eq.symm (Eq.trans (if_pos c_16) rfl)) hT), by rw [ht]; exact hP, hD⟩, hS.F ht⟩) hS.2.2 dX0_layBySeed_97
    · refine lv_sipush (v := 421) hx hb dX0_layBySeed_19 (by decide) ?_
      refine lv_iload_n hx hb dX0_layBySeed_22 rfl (lv_at hl 2 rfl) ?_
      refine lv_imul hx hb dX0_layBySeed_23 ?_
      refine lv_sipush (v := 1663) hx hb dX0_layBySeed_24 (by decide) ?_
      refine lv_iadd hx hb dX0_layBySeed_27 ?_
      refine lv_sipush (v := 10000) hx hb dX0_layBySeed_28 (by decide) ?_
      refine lv_irem hx hb dX0_layBySeed_31 (by decide) ?_
      refine lv_topi (fun v_32 e_v_32 => ?_)
      refine lv_istore_n (lv' := [(3, .int v_32), (5, .int v5), (4, .int v4), (0, .ref (B 1)), (1, .int p0), (2, .int p1)]) hx hb dX0_layBySeed_32 rfl hl (by decide) rfl (fun ls hl => ?_)
      refine lv_iconst (v := 1) hx hb dX0_layBySeed_33 (by decide) ?_
      refine lv_iload_n hx hb dX0_layBySeed_34 rfl (lv_at hl 0 rfl) ?_
      refine lv_iconst (v := 5) hx hb dX0_layBySeed_35 (by decide) ?_
      refine lv_irem hx hb dX0_layBySeed_36 (by decide) ?_
      refine lv_iadd hx hb dX0_layBySeed_37 ?_
      refine lv_topi (fun v_38 e_v_38 => ?_)
      refine lv_istore (lv' := [(6, .int v_38), (3, .int v_32), (5, .int v5), (4, .int v4), (0, .ref (B 1)), (1, .int p0), (2, .int p1)]) hx hb dX0_layBySeed_38 hl (by decide) rfl (fun ls hl => ?_)
      refine lv_iload_n hx hb dX0_layBySeed_40 rfl (lv_at hl 1 rfl) ?_
      refine lv_bipush (v := 10) hx hb dX0_layBySeed_41 (by decide) ?_
      refine lv_idiv hx hb dX0_layBySeed_43 (by decide) ?_
      refine lv_bipush (v := 10) hx hb dX0_layBySeed_44 (by decide) ?_
      refine lv_irem hx hb dX0_layBySeed_46 (by decide) ?_
      refine lv_topi (fun v_47 e_v_47 => ?_)
      refine lv_istore (lv' := [(7, .int v_47), (6, .int v_38), (3, .int v_32), (5, .int v5), (4, .int v4), (0, .ref (B 1)), (1, .int p0), (2, .int p1)]) hx hb dX0_layBySeed_47 hl (by decide) rfl (fun ls hl => ?_)
      refine lv_aload_n hx hb dX0_layBySeed_49 rfl (lv_at hl 5 rfl) ?_
      refine lv_iload hx hb dX0_layBySeed_50 (lv_at hl 1 rfl) ?_
      refine lv_iload hx hb dX0_layBySeed_52 (lv_at hl 0 rfl) ?_
      refine lv_bipush (v := 6) hx hb dX0_layBySeed_54 (by decide) ?_
      refine lv_icmp_ge (tgt := 63) hx hb dX0_layBySeed_56 (by decide) (fun c_56 => ?_) (fun c_56 => ?_)
      · refine lv_iload hx hb dX0_layBySeed_63 (lv_at hl 0 rfl) ?_
        have hPc := hP.sub (ws' := lt_Bk yI B L0 w0 st0 q0) [0, 1, 2, 3, 4, 5, 6] rfl
        have hDc := hD.sub (ws' := lt_Bk yI B L0 w0 st0 q0) [0, 1, 2, 3, 4, 5, 6] (by decide) rfl
        refine lt_cWv (wc := lt_Bk yI B L0 w0 st0 q0) (wr := []) (va_runV (As := [.int v_38, .int v_47]) (rest := []) ⟨hx, hb, hml, hown, hts⟩ (c_X0_addLeaf l D yI yC yO B L0 w0 st0 q0 v_38 v_47 _ ) (cwV 2 hts gX0_layBySeed_X0_addLeaf rfl rfl rfl (by decide +kernel) ⟨Nat.le_of_ble_eq_true rfl, Nat.le_of_ble_eq_true rfl⟩) (lt_qV hK0 hPc hDc (va_recv hK hPc (ci := 0) (q0 := 0) rfl rfl)) rfl rfl hl.1 rfl (lv_room (Nat.le_of_ble_eq_true rfl)) dX0_layBySeed_65 ⟨Nat.zero_le _, Nat.zero_le _⟩) hP hD hS hA [0, 1, 2, 3, 4, 5, 6] [] rfl rfl (by decide) (by decide) (fun x_65 e_x_65 H locs hP hD hS => ?_)
        have hP := hP.sub (ws' := lt_Bk yI B x_65.1 x_65.2.1 x_65.2.2.1 x_65.2.2.2) [0, 1, 2, 3, 4, 5, 6] rfl
        have hD := hD.sub (ws' := lt_Bk yI B x_65.1 x_65.2.1 x_65.2.2.1 x_65.2.2.2) [0, 1, 2, 3, 4, 5, 6] (by decide) rfl
        refine lv_iload_n hx hb dX0_layBySeed_68 rfl (lv_at hl 2 rfl) ?_
        refine lv_bipush (v := 100) hx hb dX0_layBySeed_69 (by decide) ?_
        refine lv_idiv hx hb dX0_layBySeed_71 (by decide) ?_
        refine lv_bipush (v := 8) hx hb dX0_layBySeed_72 (by decide) ?_
        refine lv_irem hx hb dX0_layBySeed_74 (by decide) ?_
        refine lv_if_ne (tgt := 82) hx hb dX0_layBySeed_75 (by decide) (fun c_75 => ?_) (fun c_75 => ?_)
        · refine lv_iload hx hb dX0_layBySeed_82 (lv_at hl 4 rfl) ?_
          refine lv_iload hx hb dX0_layBySeed_84 (lv_at hl 1 rfl) ?_
          refine lv_iadd hx hb dX0_layBySeed_86 ?_
          refine lv_istore (lv' := [(4, .int (v4 + v_38)), (7, .int v_47), (6, .int v_38), (3, .int v_32), (5, .int v5), (0, .ref (B 1)), (1, .int p0), (2, .int p1)]) hx hb dX0_layBySeed_87 hl (by decide) rfl (fun ls hl => ?_)
          refine lv_iinc (v := (v5 + 1)) (lv' := [(5, .int (v5 + 1)), (4, .int (v4 + v_38)), (7, .int v_47), (6, .int v_38), (3, .int v_32), (0, .ref (B 1)), (1, .int p0), (2, .int p1)]) hx hb dX0_layBySeed_89 hl (k := 4) rfl (rfl) (by decide) rfl (fun ls hl => ?_)
          refine lv_goto (tgt := 13) hx hb dX0_layBySeed_92 (by decide) ?_
          exact ih (v_32, (v4 + v_38), (v5 + 1), x_65.1, x_65.2.1, x_65.2.2.1, x_65.2.2.2) _ _ _ ⟨v_32, (v4 + v_38), (v5 + 1), x_65.1, x_65.2.1, x_65.2.2.1, x_65.2.2.2, rfl, lt_fuS hF (lt_nle c_16), (by subst e_x_65 e_v_47 e_v_38 e_v_32; exact (Eq.trans (Eq.symm (Eq.trans (if_neg c_16) (Eq.trans (if_pos c_56) (Eq.trans (if_neg c_75) rfl)))) hT)), hP, hD, hS, lv_sub hl [0, 1, 4, 5, 6, 7] rfl⟩
        · refine lv_aload_n hx hb dX0_layBySeed_78 rfl (lv_at hl 5 rfl) ?_
          have hPc := hP.sub (ws' := lt_Bk yI B x_65.1 x_65.2.1 x_65.2.2.1 x_65.2.2.2) [0, 1, 2, 3, 4, 5, 6] rfl
          have hDc := hD.sub (ws' := lt_Bk yI B x_65.1 x_65.2.1 x_65.2.2.1 x_65.2.2.2) [0, 1, 2, 3, 4, 5, 6] (by decide) rfl
          refine lt_cWv (wc := lt_Bk yI B x_65.1 x_65.2.1 x_65.2.2.1 x_65.2.2.2) (wr := []) (va_runV (As := []) (rest := []) ⟨hx, hb, hml, hown, hts⟩ (c_X0_printNothingOnLast l D yI yC yO B x_65.1 x_65.2.1 x_65.2.2.1 x_65.2.2.2 _ ) (cwV 0 hts gX0_layBySeed_X0_printNothingOnLast rfl rfl rfl (by decide +kernel) ⟨Nat.le_of_ble_eq_true rfl, Nat.le_of_ble_eq_true rfl⟩) (lt_qV hK0 hPc hDc (va_recv hK hPc (ci := 0) (q0 := 0) rfl rfl)) rfl rfl hl.1 rfl (lv_room (Nat.le_of_ble_eq_true rfl)) dX0_layBySeed_79 ⟨Nat.zero_le _, Nat.zero_le _⟩) hP hD hS hA [0, 1, 2, 3, 4, 5, 6] [] rfl rfl (by decide) (by decide) (fun x_79 e_x_79 H locs hP hD hS => ?_)
          have hP := hP.sub (ws' := lt_Bk yI B x_65.1 x_65.2.1 x_65.2.2.1 x_79) [0, 1, 2, 3, 4, 5, 6] rfl
          have hD := hD.sub (ws' := lt_Bk yI B x_65.1 x_65.2.1 x_65.2.2.1 x_79) [0, 1, 2, 3, 4, 5, 6] (by decide) rfl
          refine lv_iload hx hb dX0_layBySeed_82 (lv_at hl 4 rfl) ?_
          refine lv_iload hx hb dX0_layBySeed_84 (lv_at hl 1 rfl) ?_
          refine lv_iadd hx hb dX0_layBySeed_86 ?_
          refine lv_istore (lv' := [(4, .int (v4 + v_38)), (7, .int v_47), (6, .int v_38), (3, .int v_32), (5, .int v5), (0, .ref (B 1)), (1, .int p0), (2, .int p1)]) hx hb dX0_layBySeed_87 hl (by decide) rfl (fun ls hl => ?_)
          refine lv_iinc (v := (v5 + 1)) (lv' := [(5, .int (v5 + 1)), (4, .int (v4 + v_38)), (7, .int v_47), (6, .int v_38), (3, .int v_32), (0, .ref (B 1)), (1, .int p0), (2, .int p1)]) hx hb dX0_layBySeed_89 hl (k := 4) rfl (rfl) (by decide) rfl (fun ls hl => ?_)
          refine lv_goto (tgt := 13) hx hb dX0_layBySeed_92 (by decide) ?_
          exact ih (v_32, (v4 + v_38), (v5 + 1), x_65.1, x_65.2.1, x_65.2.2.1, x_79) _ _ _ ⟨v_32, (v4 + v_38), (v5 + 1), x_65.1, x_65.2.1, x_65.2.2.1, x_79, rfl, lt_fuS hF (lt_nle c_16), (by subst e_x_79 e_x_65 e_v_47 e_v_38 e_v_32; exact (Eq.trans (Eq.symm (Eq.trans (if_neg c_16) (Eq.trans (if_pos c_56) (Eq.trans (if_pos c_75) rfl)))) hT)), hP, hD, hS, lv_sub hl [0, 1, 4, 5, 6, 7] rfl⟩
      · refine lv_iconst (v := 0) hx hb dX0_layBySeed_59 (by decide) ?_
        refine lv_goto (tgt := 65) hx hb dX0_layBySeed_60 (by decide) ?_
        have hPc := hP.sub (ws' := lt_Bk yI B L0 w0 st0 q0) [0, 1, 2, 3, 4, 5, 6] rfl
        have hDc := hD.sub (ws' := lt_Bk yI B L0 w0 st0 q0) [0, 1, 2, 3, 4, 5, 6] (by decide) rfl
        refine lt_cWv (wc := lt_Bk yI B L0 w0 st0 q0) (wr := []) (va_runV (As := [.int v_38, .int 0]) (rest := []) ⟨hx, hb, hml, hown, hts⟩ (c_X0_addLeaf l D yI yC yO B L0 w0 st0 q0 v_38 0 _ ) (cwV 2 hts gX0_layBySeed_X0_addLeaf rfl rfl rfl (by decide +kernel) ⟨Nat.le_of_ble_eq_true rfl, Nat.le_of_ble_eq_true rfl⟩) (lt_qV hK0 hPc hDc (va_recv hK hPc (ci := 0) (q0 := 0) rfl rfl)) rfl rfl hl.1 rfl (lv_room (Nat.le_of_ble_eq_true rfl)) dX0_layBySeed_65 ⟨Nat.zero_le _, Nat.zero_le _⟩) hP hD hS hA [0, 1, 2, 3, 4, 5, 6] [] rfl rfl (by decide) (by decide) (fun x_65 e_x_65 H locs hP hD hS => ?_)
        have hP := hP.sub (ws' := lt_Bk yI B x_65.1 x_65.2.1 x_65.2.2.1 x_65.2.2.2) [0, 1, 2, 3, 4, 5, 6] rfl
        have hD := hD.sub (ws' := lt_Bk yI B x_65.1 x_65.2.1 x_65.2.2.1 x_65.2.2.2) [0, 1, 2, 3, 4, 5, 6] (by decide) rfl
        refine lv_iload_n hx hb dX0_layBySeed_68 rfl (lv_at hl 2 rfl) ?_
        refine lv_bipush (v := 100) hx hb dX0_layBySeed_69 (by decide) ?_
        refine lv_idiv hx hb dX0_layBySeed_71 (by decide) ?_
        refine lv_bipush (v := 8) hx hb dX0_layBySeed_72 (by decide) ?_
        refine lv_irem hx hb dX0_layBySeed_74 (by decide) ?_
        refine lv_if_ne (tgt := 82) hx hb dX0_layBySeed_75 (by decide) (fun c_75 => ?_) (fun c_75 => ?_)
        · refine lv_iload hx hb dX0_layBySeed_82 (lv_at hl 4 rfl) ?_
          refine lv_iload hx hb dX0_layBySeed_84 (lv_at hl 1 rfl) ?_
          refine lv_iadd hx hb dX0_layBySeed_86 ?_
          refine lv_istore (lv' := [(4, .int (v4 + v_38)), (7, .int v_47), (6, .int v_38), (3, .int v_32), (5, .int v5), (0, .ref (B 1)), (1, .int p0), (2, .int p1)]) hx hb dX0_layBySeed_87 hl (by decide) rfl (fun ls hl => ?_)
          refine lv_iinc (v := (v5 + 1)) (lv' := [(5, .int (v5 + 1)), (4, .int (v4 + v_38)), (7, .int v_47), (6, .int v_38), (3, .int v_32), (0, .ref (B 1)), (1, .int p0), (2, .int p1)]) hx hb dX0_layBySeed_89 hl (k := 4) rfl (rfl) (by decide) rfl (fun ls hl => ?_)
          refine lv_goto (tgt := 13) hx hb dX0_layBySeed_92 (by decide) ?_
          exact ih (v_32, (v4 + v_38), (v5 + 1), x_65.1, x_65.2.1, x_65.2.2.1, x_65.2.2.2) _ _ _ ⟨v_32, (v4 + v_38), (v5 + 1), x_65.1, x_65.2.1, x_65.2.2.1, x_65.2.2.2, rfl, lt_fuS hF (lt_nle c_16), (by subst e_x_65 e_v_47 e_v_38 e_v_32; exact (Eq.trans (Eq.symm (Eq.trans (if_neg c_16) (Eq.trans (if_neg c_56) (Eq.trans (if_neg c_75) rfl)))) hT)), hP, hD, hS, lv_sub hl [0, 1, 4, 5, 6, 7] rfl⟩
        · refine lv_aload_n hx hb dX0_layBySeed_78 rfl (lv_at hl 5 rfl) ?_
          have hPc := hP.sub (ws' := lt_Bk yI B x_65.1 x_65.2.1 x_65.2.2.1 x_65.2.2.2) [0, 1, 2, 3, 4, 5, 6] rfl
          have hDc := hD.sub (ws' := lt_Bk yI B x_65.1 x_65.2.1 x_65.2.2.1 x_65.2.2.2) [0, 1, 2, 3, 4, 5, 6] (by decide) rfl
          refine lt_cWv (wc := lt_Bk yI B x_65.1 x_65.2.1 x_65.2.2.1 x_65.2.2.2) (wr := []) (va_runV (As := []) (rest := []) ⟨hx, hb, hml, hown, hts⟩ (c_X0_printNothingOnLast l D yI yC yO B x_65.1 x_65.2.1 x_65.2.2.1 x_65.2.2.2 _ ) (cwV 0 hts gX0_layBySeed_X0_printNothingOnLast rfl rfl rfl (by decide +kernel) ⟨Nat.le_of_ble_eq_true rfl, Nat.le_of_ble_eq_true rfl⟩) (lt_qV hK0 hPc hDc (va_recv hK hPc (ci := 0) (q0 := 0) rfl rfl)) rfl rfl hl.1 rfl (lv_room (Nat.le_of_ble_eq_true rfl)) dX0_layBySeed_79 ⟨Nat.zero_le _, Nat.zero_le _⟩) hP hD hS hA [0, 1, 2, 3, 4, 5, 6] [] rfl rfl (by decide) (by decide) (fun x_79 e_x_79 H locs hP hD hS => ?_)
          have hP := hP.sub (ws' := lt_Bk yI B x_65.1 x_65.2.1 x_65.2.2.1 x_79) [0, 1, 2, 3, 4, 5, 6] rfl
          have hD := hD.sub (ws' := lt_Bk yI B x_65.1 x_65.2.1 x_65.2.2.1 x_79) [0, 1, 2, 3, 4, 5, 6] (by decide) rfl
          refine lv_iload hx hb dX0_layBySeed_82 (lv_at hl 4 rfl) ?_
          refine lv_iload hx hb dX0_layBySeed_84 (lv_at hl 1 rfl) ?_
          refine lv_iadd hx hb dX0_layBySeed_86 ?_
          refine lv_istore (lv' := [(4, .int (v4 + v_38)), (7, .int v_47), (6, .int v_38), (3, .int v_32), (5, .int v5), (0, .ref (B 1)), (1, .int p0), (2, .int p1)]) hx hb dX0_layBySeed_87 hl (by decide) rfl (fun ls hl => ?_)
          refine lv_iinc (v := (v5 + 1)) (lv' := [(5, .int (v5 + 1)), (4, .int (v4 + v_38)), (7, .int v_47), (6, .int v_38), (3, .int v_32), (0, .ref (B 1)), (1, .int p0), (2, .int p1)]) hx hb dX0_layBySeed_89 hl (k := 4) rfl (rfl) (by decide) rfl (fun ls hl => ?_)
          refine lv_goto (tgt := 13) hx hb dX0_layBySeed_92 (by decide) ?_
          exact ih (v_32, (v4 + v_38), (v5 + 1), x_65.1, x_65.2.1, x_65.2.2.1, x_79) _ _ _ ⟨v_32, (v4 + v_38), (v5 + 1), x_65.1, x_65.2.1, x_65.2.2.1, x_79, rfl, lt_fuS hF (lt_nle c_16), (by subst e_x_79 e_x_65 e_v_47 e_v_38 e_v_32; exact (Eq.trans (Eq.symm (Eq.trans (if_neg c_16) (Eq.trans (if_neg c_56) (Eq.trans (if_pos c_75) rfl)))) hT)), hP, hD, hS, lv_sub hl [0, 1, 4, 5, 6, 7] rfl⟩

def X0_copyFrom (L : Int32) (w st q : Nat → Int32) (L' : Int32) (w' st' q' : Nat → Int32) : Int32 × (Nat → Int32) × (Nat → Int32) × (Nat → Int32) := (L', w', st', q')
def X5_copyFrom (z : Int32) (pg nu gu pr : Nat → Int32) (z' : Int32) (pg' nu' gu' pr' : Nat → Int32) : Int32 × (Nat → Int32) × (Nat → Int32) × (Nat → Int32) × (Nat → Int32) := (z', pg', nu', gu', pr')
def X6_copyFrom (i : Nat → Int32) (a : Nat → Nat → Int32) (i' : Nat → Int32) (a' : Nat → Nat → Int32) : (Nat → Int32) × (Nat → Nat → Int32) := (i', a')

theorem iw_X0_copyFrom_0 : ∀ w ∈ wsX00, w ∈ wsX0_copyFrom := by decide +kernel
set_option maxHeartbeats 4000000 in
set_option maxRecDepth 100000 in
theorem c_X0_copyFrom (l : Launch) (D : va_G) (yI yC yO : ClassId) (B : Nat → Nat) (B' : Nat → Nat) (L : Int32) (w : Nat → Int32) (st : Nat → Int32) (q : Nat → Int32) (L' : Int32) (w' : Nat → Int32) (st' : Nat → Int32) (q' : Nat → Int32) (sz : Nat) : Met l yX0_copyFrom wsX0_copyFrom ({ frames := 2, cells := 0, slots := 0, locals := 60 }) (va_Pc [.ref (B 1), .ref (B' 1)] (lt_M D yI yC yO (lt_Bk yI B L w st q ++ lt_Bk yI B' L' w' st' q') sz)) (lt_Qv D (X0_copyFrom L w st q L' w' st' q') (fun u => lt_Bk yI B u.1 u.2.1 u.2.2.1 u.2.2.2 ++ lt_Bk yI B' L' w' st' q') (va_A (lt_Bk yI B L w st q ++ lt_Bk yI B' L' w' st' q') sz)) 0 0 (va_A (lt_Bk yI B L w st q ++ lt_Bk yI B' L' w' st' q') sz) := by
  refine Met.ofW (cc := cX0_copyFrom) (maxL := 2) (ret := none) (by decide) rfl ?_
  intro p e s m args below meth c s₁ B0 hml hv
  obtain ⟨rfl, hsz, hP, hK0, hD0⟩ := hv
  have hx := B0.exec
  have hb := B0.bytes
  have hret := B0.returns
  have hts := atoms_spec (ws := wsX0_copyFrom) B0.pre
  have hown : s.vm.findClass RX0 = some m.cls := findClass_of_methodNamed B0.named
  have hlocks := B0.notSynchronized
  have hK := hK0.1
  have hN := hK0.2
  subst hsz
  have hD := hD0.self (sz := s.heap.size)
  generalize hAe : va_A (lt_Bk yI B L w st q ++ lt_Bk yI B' L' w' st' q') s.heap.size = A at hD ⊢
  have hA : ∀ q : Nat, s.heap.size ≤ q → A q := fun q h => by rw [← hAe]; exact Or.inr h
  have hS : va_S A s.heap s.heap [] := va_S.rf
  have hP : va_P D vwCl (lt_Bk yI B L w st q ++ lt_Bk yI B' L' w' st' q') s.heap := hP
  have hD : va_D A (lt_Bk yI B L w st q ++ lt_Bk yI B' L' w' st' q') := hD
  have hl := lv_entry ([.ref (B 1), .ref (B' 1)]) (n := 2) (Nat.le_of_ble_eq_true rfl)
  rw [lg_entry_eq]
  generalize (lg_sl ([.ref (B 1), .ref (B' 1)]) ++ List.replicate (2 - (lg_sl ([.ref (B 1), .ref (B' 1)])).length) Slot.unset).toArray = ls at hl ⊢
  have hl : lv_has ls 2 [(0, .ref (B 1)), (1, .ref (B' 1))] := hl
  refine lv_aload_n hx hb dX0_copyFrom_0 rfl (lv_at hl 0 rfl) ?_
  refine va_get (D := D) (ci := 0) (v := .ref (B 2)) (C := RX0) (T := TX0) (N := 4) hx hb hts iw_X0_copyFrom_0 hown hK hP 0 rfl rfl 0 (by decide) (hts (.fieldLink RX0 14 "LeafTurner$Book" "weights" "LLeafTurner$Numbers;") (by decide +kernel)) (fun _ h9 => h9) rfl dX0_copyFrom_1 ?_
  refine lv_aload_n hx hb dX0_copyFrom_4 rfl (lv_at hl 1 rfl) ?_
  refine va_get (D := D) (ci := 0) (v := .ref (B' 2)) (C := RX0) (T := TX0) (N := 4) hx hb hts iw_X0_copyFrom_0 hown hK hP 7 rfl rfl 0 (by decide) (hts (.fieldLink RX0 14 "LeafTurner$Book" "weights" "LLeafTurner$Numbers;") (by decide +kernel)) (fun _ h9 => h9) rfl dX0_copyFrom_5 ?_
  have hPc := hP.sub (ws' := lt_N2 yI (B 2) (B 3) 30 w ++ lt_N2 yI (B' 2) (B' 3) 30 w') [1, 2, 8, 9] rfl
  have hDc := hD.sub (ws' := lt_N2 yI (B 2) (B 3) 30 w ++ lt_N2 yI (B' 2) (B' 3) 30 w') [1, 2, 8, 9] (by decide) rfl
  refine lt_cWv0 (wc := lt_N2 yI (B 2) (B 3) 30 w ++ lt_N2 yI (B' 2) (B' 3) 30 w') (wr := [(B 1, .inr (0, [.ref (B 2), .ref (B 4), .ref (B 6), .int L])), (B 4, .inr (3, [.ref (B 5)])), (B 5, .inl (yI, 30, .inl st)), (B 6, .inr (3, [.ref (B 7)])), (B 7, .inl (yI, 60, .inl q)), (B' 1, .inr (0, [.ref (B' 2), .ref (B' 4), .ref (B' 6), .int L'])), (B' 4, .inr (3, [.ref (B' 5)])), (B' 5, .inl (yI, 30, .inl st')), (B' 6, .inr (3, [.ref (B' 7)])), (B' 7, .inl (yI, 60, .inl q'))]) (va_runV (As := [.ref (B' 2)]) (rest := []) ⟨hx, hb, hml, hown, hts⟩ (c_X3_copyFrom l D yI yC yO (B 2) (B 3) 30 (B' 2) (B' 3) w w' _ (by decide)) (cwV 1 hts gX0_copyFrom_X3_copyFrom rfl rfl rfl (by decide +kernel) ⟨Nat.le_of_ble_eq_true rfl, Nat.le_of_ble_eq_true rfl⟩) (lt_qV hK0 hPc hDc (va_recv hK hPc (ci := 3) (q0 := 0) rfl rfl)) rfl rfl hl.1 rfl (lv_room (Nat.le_of_ble_eq_true rfl)) dX0_copyFrom_8 ⟨Nat.zero_le _, Nat.zero_le _⟩) hP hD hS hA [1, 2, 8, 9] [0, 3, 4, 5, 6, 7, 10, 11, 12, 13] rfl rfl (by decide) (by decide) (fun H locs hP hD hS => ?_)
  have hP := hP.sub (ws' := lt_Bk yI B L w' st q ++ lt_Bk yI B' L' w' st' q') [0, 10, 11, 1, 2, 3, 4, 5, 12, 13, 6, 7, 8, 9] rfl
  have hD := hD.sub (ws' := lt_Bk yI B L w' st q ++ lt_Bk yI B' L' w' st' q') [0, 10, 11, 1, 2, 3, 4, 5, 12, 13, 6, 7, 8, 9] (by decide) rfl
  refine lv_aload_n hx hb dX0_copyFrom_11 rfl (lv_at hl 0 rfl) ?_
  refine va_get (D := D) (ci := 0) (v := .ref (B 4)) (C := RX0) (T := TX0) (N := 4) hx hb hts iw_X0_copyFrom_0 hown hK hP 0 rfl rfl 1 (by decide) (hts (.fieldLink RX0 20 "LeafTurner$Book" "strengths" "LLeafTurner$Numbers;") (by decide +kernel)) (fun _ h9 => h9) rfl dX0_copyFrom_12 ?_
  refine lv_aload_n hx hb dX0_copyFrom_15 rfl (lv_at hl 1 rfl) ?_
  refine va_get (D := D) (ci := 0) (v := .ref (B' 4)) (C := RX0) (T := TX0) (N := 4) hx hb hts iw_X0_copyFrom_0 hown hK hP 7 rfl rfl 1 (by decide) (hts (.fieldLink RX0 20 "LeafTurner$Book" "strengths" "LLeafTurner$Numbers;") (by decide +kernel)) (fun _ h9 => h9) rfl dX0_copyFrom_16 ?_
  have hPc := hP.sub (ws' := lt_N2 yI (B 4) (B 5) 30 st ++ lt_N2 yI (B' 4) (B' 5) 30 st') [3, 4, 10, 11] rfl
  have hDc := hD.sub (ws' := lt_N2 yI (B 4) (B 5) 30 st ++ lt_N2 yI (B' 4) (B' 5) 30 st') [3, 4, 10, 11] (by decide) rfl
  refine lt_cWv0 (wc := lt_N2 yI (B 4) (B 5) 30 st ++ lt_N2 yI (B' 4) (B' 5) 30 st') (wr := [(B 1, .inr (0, [.ref (B 2), .ref (B 4), .ref (B 6), .int L])), (B 2, .inr (3, [.ref (B 3)])), (B 3, .inl (yI, 30, .inl w')), (B 6, .inr (3, [.ref (B 7)])), (B 7, .inl (yI, 60, .inl q)), (B' 1, .inr (0, [.ref (B' 2), .ref (B' 4), .ref (B' 6), .int L'])), (B' 2, .inr (3, [.ref (B' 3)])), (B' 3, .inl (yI, 30, .inl w')), (B' 6, .inr (3, [.ref (B' 7)])), (B' 7, .inl (yI, 60, .inl q'))]) (va_runV (As := [.ref (B' 4)]) (rest := []) ⟨hx, hb, hml, hown, hts⟩ (c_X3_copyFrom l D yI yC yO (B 4) (B 5) 30 (B' 4) (B' 5) st st' _ (by decide)) (cwV 1 hts gX0_copyFrom_X3_copyFrom rfl rfl rfl (by decide +kernel) ⟨Nat.le_of_ble_eq_true rfl, Nat.le_of_ble_eq_true rfl⟩) (lt_qV hK0 hPc hDc (va_recv hK hPc (ci := 3) (q0 := 0) rfl rfl)) rfl rfl hl.1 rfl (lv_room (Nat.le_of_ble_eq_true rfl)) dX0_copyFrom_19 ⟨Nat.zero_le _, Nat.zero_le _⟩) hP hD hS hA [3, 4, 10, 11] [0, 1, 2, 5, 6, 7, 8, 9, 12, 13] rfl rfl (by decide) (by decide) (fun H locs hP hD hS => ?_)
  have hP := hP.sub (ws' := lt_Bk yI B L w' st' q ++ lt_Bk yI B' L' w' st' q') [0, 1, 2, 10, 11, 3, 4, 5, 6, 7, 12, 13, 8, 9] rfl
  have hD := hD.sub (ws' := lt_Bk yI B L w' st' q ++ lt_Bk yI B' L' w' st' q') [0, 1, 2, 10, 11, 3, 4, 5, 6, 7, 12, 13, 8, 9] (by decide) rfl
  refine lv_aload_n hx hb dX0_copyFrom_22 rfl (lv_at hl 0 rfl) ?_
  refine va_get (D := D) (ci := 0) (v := .ref (B 6)) (C := RX0) (T := TX0) (N := 4) hx hb hts iw_X0_copyFrom_0 hown hK hP 0 rfl rfl 2 (by decide) (hts (.fieldLink RX0 23 "LeafTurner$Book" "printed" "LLeafTurner$Numbers;") (by decide +kernel)) (fun _ h9 => h9) rfl dX0_copyFrom_23 ?_
  refine lv_aload_n hx hb dX0_copyFrom_26 rfl (lv_at hl 1 rfl) ?_
  refine va_get (D := D) (ci := 0) (v := .ref (B' 6)) (C := RX0) (T := TX0) (N := 4) hx hb hts iw_X0_copyFrom_0 hown hK hP 7 rfl rfl 2 (by decide) (hts (.fieldLink RX0 23 "LeafTurner$Book" "printed" "LLeafTurner$Numbers;") (by decide +kernel)) (fun _ h9 => h9) rfl dX0_copyFrom_27 ?_
  have hPc := hP.sub (ws' := lt_N2 yI (B 6) (B 7) 60 q ++ lt_N2 yI (B' 6) (B' 7) 60 q') [5, 6, 12, 13] rfl
  have hDc := hD.sub (ws' := lt_N2 yI (B 6) (B 7) 60 q ++ lt_N2 yI (B' 6) (B' 7) 60 q') [5, 6, 12, 13] (by decide) rfl
  refine lt_cWv0 (wc := lt_N2 yI (B 6) (B 7) 60 q ++ lt_N2 yI (B' 6) (B' 7) 60 q') (wr := [(B 1, .inr (0, [.ref (B 2), .ref (B 4), .ref (B 6), .int L])), (B 2, .inr (3, [.ref (B 3)])), (B 3, .inl (yI, 30, .inl w')), (B 4, .inr (3, [.ref (B 5)])), (B 5, .inl (yI, 30, .inl st')), (B' 1, .inr (0, [.ref (B' 2), .ref (B' 4), .ref (B' 6), .int L'])), (B' 2, .inr (3, [.ref (B' 3)])), (B' 3, .inl (yI, 30, .inl w')), (B' 4, .inr (3, [.ref (B' 5)])), (B' 5, .inl (yI, 30, .inl st'))]) (va_runV (As := [.ref (B' 6)]) (rest := []) ⟨hx, hb, hml, hown, hts⟩ (c_X3_copyFrom l D yI yC yO (B 6) (B 7) 60 (B' 6) (B' 7) q q' _ (by decide)) (cwV 1 hts gX0_copyFrom_X3_copyFrom rfl rfl rfl (by decide +kernel) ⟨Nat.le_of_ble_eq_true rfl, Nat.le_of_ble_eq_true rfl⟩) (lt_qV hK0 hPc hDc (va_recv hK hPc (ci := 3) (q0 := 0) rfl rfl)) rfl rfl hl.1 rfl (lv_room (Nat.le_of_ble_eq_true rfl)) dX0_copyFrom_30 ⟨Nat.zero_le _, Nat.zero_le _⟩) hP hD hS hA [5, 6, 12, 13] [0, 1, 2, 3, 4, 7, 8, 9, 10, 11] rfl rfl (by decide) (by decide) (fun H locs hP hD hS => ?_)
  have hP := hP.sub (ws' := lt_Bk yI B L w' st' q' ++ lt_Bk yI B' L' w' st' q') [0, 1, 2, 3, 4, 10, 11, 5, 6, 7, 8, 9, 12, 13] rfl
  have hD := hD.sub (ws' := lt_Bk yI B L w' st' q' ++ lt_Bk yI B' L' w' st' q') [0, 1, 2, 3, 4, 10, 11, 5, 6, 7, 8, 9, 12, 13] (by decide) rfl
  refine lv_aload_n hx hb dX0_copyFrom_33 rfl (lv_at hl 0 rfl) ?_
  refine lv_aload_n hx hb dX0_copyFrom_34 rfl (lv_at hl 1 rfl) ?_
  refine va_get (D := D) (ci := 0) (v := .int L') (C := RX0) (T := TX0) (N := 4) hx hb hts iw_X0_copyFrom_0 hown hK hP 7 rfl rfl 3 (by decide) (hts (.fieldLink RX0 26 "LeafTurner$Book" "leaves" "I") (by decide +kernel)) (fun _ h9 => h9) rfl dX0_copyFrom_35 ?_
  refine va_put (D := D) (ci := 0) (v := .int L') (ty := .int) (C := RX0) (T := TX0) (N := 4) hx hb hts iw_X0_copyFrom_0 tyX0 tyX0_ok nmX0 hown hK hP hD hS 0 rfl rfl 3 (by decide) (hts (.fieldLink RX0 26 "LeafTurner$Book" "leaves" "I") (by decide +kernel)) (fun _ h9 => h9) rfl (by decide +kernel) rfl rfl (Nat.le_of_ble_eq_true rfl) dX0_copyFrom_38 (fun H locs hP hD hS => ?_)
  have hP : va_P D vwCl (lt_Bk yI B L' w' st' q' ++ lt_Bk yI B' L' w' st' q') H := hP
  have hD : va_D A (lt_Bk yI B L' w' st' q' ++ lt_Bk yI B' L' w' st' q') := hD
  have hP : va_P D vwCl (lt_Bk yI B L' w' st' q' ++ lt_Bk yI B' L' w' st' q') H := hP
  have hD : va_D A (lt_Bk yI B L' w' st' q' ++ lt_Bk yI B' L' w' st' q') := hD
  exact W.vret hx hb hret (fun t ht hW => ⟨⟨(L', w', st', q'), rfl, rfl, by rw [ht]; exact hP, hD⟩, hS.F ht⟩) hS.2.2 dX0_copyFrom_41
