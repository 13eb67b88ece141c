def X1_has (len : Int32) (sg : Nat → Int32) (p0 : Int32) : Int32 :=
  if p0 < 0 then
    0
  else
    if len ≤ p0 then
      0
    else
      if 60 ≤ p0 then
        0
      else
        1
theorem iw_X1_has_1 : ∀ w ∈ wsX10, w ∈ wsX1_has := by decide +kernel
set_option maxHeartbeats 4000000 in
set_option maxRecDepth 100000 in
theorem c_X1_has (l : Launch) (D : va_G) (yI yC yO : ClassId) (G : Nat → Nat) (len : Int32) (sg : Nat → Int32) (p0 : Int32) : Met l yX1_has wsX1_has ({ frames := 0, cells := 0, slots := 0, locals := 0 }) (va_Pc [.ref (G 0), .int p0] (lt_R D yI yC yO (lt_Tx yC G len sg))) (lt_Si (X1_has len sg p0)) 0 0 (fun _ => False) := by
  refine Met.ofW (cc := cX1_has) (maxL := 2) (ret := (some .boolean)) (by decide) rfl ?_
  intro p e s m args below meth c s₁ B0 hml hv
  obtain ⟨rfl, hP, hK0⟩ := hv
  have hx := B0.exec
  have hb := B0.bytes
  have hret := B0.returns
  have hts := atoms_spec (ws := wsX1_has) B0.pre
  have hown : s.vm.findClass RX1 = some m.cls := findClass_of_methodNamed B0.named
  have hlocks := B0.notSynchronized
  have hK := hK0.1
  have hN := hK0.2
  have hP : va_P D vwCl (lt_Tx yC G len sg) s.heap := hP
  have hl := lv_entry ([.ref (G 0), .int p0]) (n := 2) (Nat.le_of_ble_eq_true rfl)
  rw [lg_entry_eq]
  generalize (lg_sl ([.ref (G 0), .int p0]) ++ List.replicate (2 - (lg_sl ([.ref (G 0), .int p0])).length) Slot.unset).toArray = ls at hl ⊢
  have hl : lv_has ls 2 [(0, .ref (G 0)), (1, .int p0)] := hl
  refine lv_iload_n hx hb dX1_has_0 rfl (lv_at hl 1 rfl) ?_
  refine lv_if_lt (tgt := 25) hx hb dX1_has_1 (by decide) (fun c_1 => ?_) (fun c_1 => ?_)
  · refine lv_iconst (v := 0) hx hb dX1_has_25 (by decide) ?_
    exact W.zret (v := 0) hx hb hret lt_z0 (fun t ht hW => ⟨0, rfl, (Eq.symm (Eq.trans (if_pos c_1) rfl)), ht⟩) (fun _ h => absurd h List.not_mem_nil) dX1_has_26
  · refine lv_iload_n hx hb dX1_has_4 rfl (lv_at hl 1 rfl) ?_
    refine lv_aload_n hx hb dX1_has_5 rfl (lv_at hl 0 rfl) ?_
    refine va_get (D := D) (ci := 1) (v := .int len) (C := RX1) (T := TX1) (N := 2) hx hb hts iw_X1_has_1 hown hK hP 0 rfl rfl 1 (by decide) (hts (.fieldLink RX1 15 "LeafTurner$BookText" "length" "I") (by decide +kernel)) (fun _ h9 => h9) rfl dX1_has_6 ?_
    refine lv_icmp_ge (tgt := 25) hx hb dX1_has_9 (by decide) (fun c_9 => ?_) (fun c_9 => ?_)
    · refine lv_iconst (v := 0) hx hb dX1_has_25 (by decide) ?_
      exact W.zret (v := 0) hx hb hret lt_z0 (fun t ht hW => ⟨0, rfl, (Eq.symm (Eq.trans (if_neg c_1) (Eq.trans (if_pos c_9) rfl))), ht⟩) (fun _ h => absurd h List.not_mem_nil) dX1_has_26
    · refine lv_iload_n hx hb dX1_has_12 rfl (lv_at hl 1 rfl) ?_
      refine lv_aload_n hx hb dX1_has_13 rfl (lv_at hl 0 rfl) ?_
      refine va_get (D := D) (ci := 1) (v := .ref (G 1)) (C := RX1) (T := TX1) (N := 2) hx hb hts iw_X1_has_1 hown hK hP 0 rfl rfl 0 (by decide) (hts (.fieldLink RX1 9 "LeafTurner$BookText" "signs" "[C") (by decide +kernel)) (fun _ h9 => h9) rfl dX1_has_14 ?_
      refine va_alen (v := 60) hx hb hK hP 1 1 rfl rfl rfl dX1_has_17 ?_
      refine lv_icmp_ge (tgt := 25) hx hb dX1_has_18 (by decide) (fun c_18 => ?_) (fun c_18 => ?_)
      · refine lv_iconst (v := 0) hx hb dX1_has_25 (by decide) ?_
        exact W.zret (v := 0) hx hb hret lt_z0 (fun t ht hW => ⟨0, rfl, (Eq.symm (Eq.trans (if_neg c_1) (Eq.trans (if_neg c_9) (Eq.trans (if_pos c_18) rfl)))), ht⟩) (fun _ h => absurd h List.not_mem_nil) dX1_has_26
      · refine lv_iconst (v := 1) hx hb dX1_has_21 (by decide) ?_
        refine lv_goto (tgt := 26) hx hb dX1_has_22 (by decide) ?_
        exact W.zret (v := 1) hx hb hret lt_z1 (fun t ht hW => ⟨1, rfl, (Eq.symm (Eq.trans (if_neg c_1) (Eq.trans (if_neg c_9) (Eq.trans (if_neg c_18) rfl)))), ht⟩) (fun _ h => absurd h List.not_mem_nil) dX1_has_26

theorem lt_vin {x b : Int32} {n : Nat} (hb : b.toInt = (n : Int)) (h0 : ¬ x < 0) (h1 : ¬ b ≤ x) : vp_in x n := by
  have h3 := Int32.lt_iff_toInt_lt.mp (lt_nle h1)
  have h4 := Int32.le_iff_toInt_le.mp (lt_nlt h0)
  have h6 : (0 : Int32).toInt = 0 := by decide
  rw [hb] at h3; rw [h6] at h4
  exact vp_in_iff.mpr ⟨h4, h3⟩
theorem lt_thas {len : Int32} {sg : Nat → Int32} {i r : Int32} (e : r = X1_has len sg i) (h : ¬ r = 0) : vp_in i 60 := by
  subst e
  unfold X1_has at h
  split at h
  · exact absurd rfl h
  · split at h
    · exact absurd rfl h
    · split at h
      · exact absurd rfl h
      · next h1 h2 h3 => exact lt_vin (by decide) h1 h3

def X1_is (len : Int32) (sg : Nat → Int32) (p0 : Int32) (p1 : Int32) : Int32 :=
  let r_2 := X1_has len sg p0
  if r_2 = 0 then
    0
  else
    if (sg p0.toNatClampNeg) = p1 then
      1
    else
      0
theorem iw_X1_is_1 : ∀ w ∈ wsX10, w ∈ wsX1_is := by decide +kernel
set_option maxHeartbeats 4000000 in
set_option maxRecDepth 100000 in
theorem c_X1_is (l : Launch) (D : va_G) (yI yC yO : ClassId) (G : Nat → Nat) (len : Int32) (sg : Nat → Int32) (p0 : Int32) (p1 : Int32) : Met l yX1_is wsX1_is ({ frames := 1, cells := 0, slots := 0, locals := 30 }) (va_Pc [.ref (G 0), .int p0, .int p1] (lt_R D yI yC yO (lt_Tx yC G len sg))) (lt_Si (X1_is len sg p0 p1)) 0 0 (fun _ => False) := by
  refine Met.ofW (cc := cX1_is) (maxL := 3) (ret := (some .boolean)) (by decide) rfl ?_
  intro p e s m args below meth c s₁ B0 hml hv
  obtain ⟨rfl, hP, hK0⟩ := hv
  have hx := B0.exec
  have hb := B0.bytes
  have hret := B0.returns
  have hts := atoms_spec (ws := wsX1_is) B0.pre
  have hown : s.vm.findClass RX1 = some m.cls := findClass_of_methodNamed B0.named
  have hlocks := B0.notSynchronized
  have hK := hK0.1
  have hN := hK0.2
  have hP : va_P D vwCl (lt_Tx yC G len sg) s.heap := hP
  have hl := lv_entry ([.ref (G 0), .int p0, .int p1]) (n := 3) (Nat.le_of_ble_eq_true rfl)
  rw [lg_entry_eq]
  generalize (lg_sl ([.ref (G 0), .int p0, .int p1]) ++ List.replicate (3 - (lg_sl ([.ref (G 0), .int p0, .int p1])).length) Slot.unset).toArray = ls at hl ⊢
  have hl : lv_has ls 3 [(0, .ref (G 0)), (1, .int p0), (2, .int p1)] := hl
  refine lv_aload_n hx hb dX1_is_0 rfl (lv_at hl 0 rfl) ?_
  refine lv_iload_n hx hb dX1_is_1 rfl (lv_at hl 1 rfl) ?_
  have hPc := hP.sub (ws' := lt_Tx yC G len sg) [0, 1] rfl
  refine lt_cR (va_runV (As := [.int p0]) (rest := []) ⟨hx, hb, hml, hown, hts⟩ (c_X1_has l D yI yC yO G len sg p0 ) (cwV 1 hts gX1_is_X1_has rfl rfl rfl (by decide +kernel) ⟨Nat.le_of_ble_eq_true rfl, Nat.le_of_ble_eq_true rfl⟩) (lt_pV hK0 hPc (va_recv hK hPc (ci := 1) (q0 := 0) rfl rfl)) rfl rfl hl.1 rfl (lv_room (Nat.le_of_ble_eq_true rfl)) dX1_is_2 ⟨Nat.zero_le _, Nat.zero_le _⟩) (fun r_2 e_r_2 => ?_)
  refine lv_if_eq (tgt := 22) hx hb dX1_is_5 (by decide) (fun c_5 => ?_) (fun c_5 => ?_)
  · refine lv_iconst (v := 0) hx hb dX1_is_22 (by decide) ?_
    exact W.zret (v := 0) hx hb hret lt_z0 (fun t ht hW => ⟨0, rfl, (by subst e_r_2; exact (Eq.symm (Eq.trans (if_pos c_5) rfl))), ht⟩) (fun _ h => absurd h List.not_mem_nil) dX1_is_23
  · refine lv_aload_n hx hb dX1_is_8 rfl (lv_at hl 0 rfl) ?_
    refine va_get (D := D) (ci := 1) (v := .ref (G 1)) (C := RX1) (T := TX1) (N := 2) hx hb hts iw_X1_is_1 hown hK hP 0 rfl rfl 0 (by decide) (hts (.fieldLink RX1 9 "LeafTurner$BookText" "signs" "[C") (by decide +kernel)) (fun _ h9 => h9) rfl dX1_is_9 ?_
    refine lv_iload_n hx hb dX1_is_12 rfl (lv_at hl 1 rfl) ?_
    refine va_cald hx hb hK hP 1 1 rfl rfl (i := p0) (lt_thas e_r_2 c_5) dX1_is_13 ?_
    refine lv_iload_n hx hb dX1_is_14 rfl (lv_at hl 2 rfl) ?_
    refine lv_icmp_ne (tgt := 22) hx hb dX1_is_15 (by decide) (fun c_15 => ?_) (fun c_15 => ?_)
    · refine lv_iconst (v := 0) hx hb dX1_is_22 (by decide) ?_
      exact W.zret (v := 0) hx hb hret lt_z0 (fun t ht hW => ⟨0, rfl, (by subst e_r_2; exact (Eq.symm (Eq.trans (if_neg c_5) (Eq.trans (if_neg c_15) rfl)))), ht⟩) (fun _ h => absurd h List.not_mem_nil) dX1_is_23
    · refine lv_iconst (v := 1) hx hb dX1_is_18 (by decide) ?_
      refine lv_goto (tgt := 23) hx hb dX1_is_19 (by decide) ?_
      exact W.zret (v := 1) hx hb hret lt_z1 (fun t ht hW => ⟨1, rfl, (by subst e_r_2; exact (Eq.symm (Eq.trans (if_neg c_5) (Eq.trans (if_pos c_15) rfl)))), ht⟩) (fun _ h => absurd h List.not_mem_nil) dX1_is_23

def X1_isDigit (len : Int32) (sg : Nat → Int32) (p0 : Int32) : Int32 :=
  let r_2 := X1_has len sg p0
  if r_2 = 0 then
    0
  else
    if (sg p0.toNatClampNeg) < 49 then
      0
    else
      if 57 < (sg p0.toNatClampNeg) then
        0
      else
        1
theorem iw_X1_isDigit_1 : ∀ w ∈ wsX10, w ∈ wsX1_isDigit := by decide +kernel
set_option maxHeartbeats 4000000 in
set_option maxRecDepth 100000 in
theorem c_X1_isDigit (l : Launch) (D : va_G) (yI yC yO : ClassId) (G : Nat → Nat) (len : Int32) (sg : Nat → Int32) (p0 : Int32) : Met l yX1_isDigit wsX1_isDigit ({ frames := 1, cells := 0, slots := 0, locals := 30 }) (va_Pc [.ref (G 0), .int p0] (lt_R D yI yC yO (lt_Tx yC G len sg))) (lt_Si (X1_isDigit len sg p0)) 0 0 (fun _ => False) := by
  refine Met.ofW (cc := cX1_isDigit) (maxL := 2) (ret := (some .boolean)) (by decide) rfl ?_
  intro p e s m args below meth c s₁ B0 hml hv
  obtain ⟨rfl, hP, hK0⟩ := hv
  have hx := B0.exec
  have hb := B0.bytes
  have hret := B0.returns
  have hts := atoms_spec (ws := wsX1_isDigit) B0.pre
  have hown : s.vm.findClass RX1 = some m.cls := findClass_of_methodNamed B0.named
  have hlocks := B0.notSynchronized
  have hK := hK0.1
  have hN := hK0.2
  have hP : va_P D vwCl (lt_Tx yC G len sg) s.heap := hP
  have hl := lv_entry ([.ref (G 0), .int p0]) (n := 2) (Nat.le_of_ble_eq_true rfl)
  rw [lg_entry_eq]
  generalize (lg_sl ([.ref (G 0), .int p0]) ++ List.replicate (2 - (lg_sl ([.ref (G 0), .int p0])).length) Slot.unset).toArray = ls at hl ⊢
  have hl : lv_has ls 2 [(0, .ref (G 0)), (1, .int p0)] := hl
  refine lv_aload_n hx hb dX1_isDigit_0 rfl (lv_at hl 0 rfl) ?_
  refine lv_iload_n hx hb dX1_isDigit_1 rfl (lv_at hl 1 rfl) ?_
  have hPc := hP.sub (ws' := lt_Tx yC G len sg) [0, 1] rfl
  refine lt_cR (va_runV (As := [.int p0]) (rest := []) ⟨hx, hb, hml, hown, hts⟩ (c_X1_has l D yI yC yO G len sg p0 ) (cwV 1 hts gX1_isDigit_X1_has rfl rfl rfl (by decide +kernel) ⟨Nat.le_of_ble_eq_true rfl, Nat.le_of_ble_eq_true rfl⟩) (lt_pV hK0 hPc (va_recv hK hPc (ci := 1) (q0 := 0) rfl rfl)) rfl rfl hl.1 rfl (lv_room (Nat.le_of_ble_eq_true rfl)) dX1_isDigit_2 ⟨Nat.zero_le _, Nat.zero_le _⟩) (fun r_2 e_r_2 => ?_)
  refine lv_if_eq (tgt := 34) hx hb dX1_isDigit_5 (by decide) (fun c_5 => ?_) (fun c_5 => ?_)
  · refine lv_iconst (v := 0) hx hb dX1_isDigit_34 (by decide) ?_
    exact W.zret (v := 0) hx hb hret lt_z0 (fun t ht hW => ⟨0, rfl, (by subst e_r_2; exact (Eq.symm (Eq.trans (if_pos c_5) rfl))), ht⟩) (fun _ h => absurd h List.not_mem_nil) dX1_isDigit_35
  · refine lv_aload_n hx hb dX1_isDigit_8 rfl (lv_at hl 0 rfl) ?_
    refine va_get (D := D) (ci := 1) (v := .ref (G 1)) (C := RX1) (T := TX1) (N := 2) hx hb hts iw_X1_isDigit_1 hown hK hP 0 rfl rfl 0 (by decide) (hts (.fieldLink RX1 9 "LeafTurner$BookText" "signs" "[C") (by decide +kernel)) (fun _ h9 => h9) rfl dX1_isDigit_9 ?_
    refine lv_iload_n hx hb dX1_isDigit_12 rfl (lv_at hl 1 rfl) ?_
    refine va_cald hx hb hK hP 1 1 rfl rfl (i := p0) (lt_thas e_r_2 c_5) dX1_isDigit_13 ?_
    refine lv_bipush (v := 49) hx hb dX1_isDigit_14 (by decide) ?_
    refine lv_icmp_lt (tgt := 34) hx hb dX1_isDigit_16 (by decide) (fun c_16 => ?_) (fun c_16 => ?_)
    · refine lv_iconst (v := 0) hx hb dX1_isDigit_34 (by decide) ?_
      exact W.zret (v := 0) hx hb hret lt_z0 (fun t ht hW => ⟨0, rfl, (by subst e_r_2; exact (Eq.symm (Eq.trans (if_neg c_5) (Eq.trans (if_pos c_16) rfl)))), ht⟩) (fun _ h => absurd h List.not_mem_nil) dX1_isDigit_35
    · refine lv_aload_n hx hb dX1_isDigit_19 rfl (lv_at hl 0 rfl) ?_
      refine va_get (D := D) (ci := 1) (v := .ref (G 1)) (C := RX1) (T := TX1) (N := 2) hx hb hts iw_X1_isDigit_1 hown hK hP 0 rfl rfl 0 (by decide) (hts (.fieldLink RX1 9 "LeafTurner$BookText" "signs" "[C") (by decide +kernel)) (fun _ h9 => h9) rfl dX1_isDigit_20 ?_
      refine lv_iload_n hx hb dX1_isDigit_23 rfl (lv_at hl 1 rfl) ?_
      refine va_cald hx hb hK hP 1 1 rfl rfl (i := p0) (lt_thas e_r_2 c_5) dX1_isDigit_24 ?_
      refine lv_bipush (v := 57) hx hb dX1_isDigit_25 (by decide) ?_
      refine lv_icmp_gt (tgt := 34) hx hb dX1_isDigit_27 (by decide) (fun c_27 => ?_) (fun c_27 => ?_)
      · refine lv_iconst (v := 0) hx hb dX1_isDigit_34 (by decide) ?_
        exact W.zret (v := 0) hx hb hret lt_z0 (fun t ht hW => ⟨0, rfl, (by subst e_r_2; exact (Eq.symm (Eq.trans (if_neg c_5) (Eq.trans (if_neg c_16) (Eq.trans (if_pos c_27) rfl))))), ht⟩) (fun _ h => absurd h List.not_mem_nil) dX1_isDigit_35
      · refine lv_iconst (v := 1) hx hb dX1_isDigit_30 (by decide) ?_
        refine lv_goto (tgt := 35) hx hb dX1_isDigit_31 (by decide) ?_
        exact W.zret (v := 1) hx hb hret lt_z1 (fun t ht hW => ⟨1, rfl, (by subst e_r_2; exact (Eq.symm (Eq.trans (if_neg c_5) (Eq.trans (if_neg c_16) (Eq.trans (if_neg c_27) rfl))))), ht⟩) (fun _ h => absurd h List.not_mem_nil) dX1_isDigit_35

def X1_digit (len : Int32) (sg : Nat → Int32) (p0 : Int32) : Int32 :=
  let r_2 := X1_has len sg p0
  if r_2 = 0 then
    0
  else
    ((sg p0.toNatClampNeg) - 48)
theorem iw_X1_digit_1 : ∀ w ∈ wsX10, w ∈ wsX1_digit := by decide +kernel
set_option maxHeartbeats 4000000 in
set_option maxRecDepth 100000 in
theorem c_X1_digit (l : Launch) (D : va_G) (yI yC yO : ClassId) (G : Nat → Nat) (len : Int32) (sg : Nat → Int32) (p0 : Int32) : Met l yX1_digit wsX1_digit ({ frames := 1, cells := 0, slots := 0, locals := 30 }) (va_Pc [.ref (G 0), .int p0] (lt_R D yI yC yO (lt_Tx yC G len sg))) (lt_Si (X1_digit len sg p0)) 0 0 (fun _ => False) := by
  refine Met.ofW (cc := cX1_digit) (maxL := 2) (ret := (some .int)) (by decide) rfl ?_
  intro p e s m args below meth c s₁ B0 hml hv
  obtain ⟨rfl, hP, hK0⟩ := hv
  have hx := B0.exec
  have hb := B0.bytes
  have hret := B0.returns
  have hts := atoms_spec (ws := wsX1_digit) B0.pre
  have hown : s.vm.findClass RX1 = some m.cls := findClass_of_methodNamed B0.named
  have hlocks := B0.notSynchronized
  have hK := hK0.1
  have hN := hK0.2
  have hP : va_P D vwCl (lt_Tx yC G len sg) s.heap := hP
  have hl := lv_entry ([.ref (G 0), .int p0]) (n := 2) (Nat.le_of_ble_eq_true rfl)
  rw [lg_entry_eq]
  generalize (lg_sl ([.ref (G 0), .int p0]) ++ List.replicate (2 - (lg_sl ([.ref (G 0), .int p0])).length) Slot.unset).toArray = ls at hl ⊢
  have hl : lv_has ls 2 [(0, .ref (G 0)), (1, .int p0)] := hl
  refine lv_aload_n hx hb dX1_digit_0 rfl (lv_at hl 0 rfl) ?_
  refine lv_iload_n hx hb dX1_digit_1 rfl (lv_at hl 1 rfl) ?_
  have hPc := hP.sub (ws' := lt_Tx yC G len sg) [0, 1] rfl
  refine lt_cR (va_runV (As := [.int p0]) (rest := []) ⟨hx, hb, hml, hown, hts⟩ (c_X1_has l D yI yC yO G len sg p0 ) (cwV 1 hts gX1_digit_X1_has rfl rfl rfl (by decide +kernel) ⟨Nat.le_of_ble_eq_true rfl, Nat.le_of_ble_eq_true rfl⟩) (lt_pV hK0 hPc (va_recv hK hPc (ci := 1) (q0 := 0) rfl rfl)) rfl rfl hl.1 rfl (lv_room (Nat.le_of_ble_eq_true rfl)) dX1_digit_2 ⟨Nat.zero_le _, Nat.zero_le _⟩) (fun r_2 e_r_2 => ?_)
  refine lv_if_eq (tgt := 20) hx hb dX1_digit_5 (by decide) (fun c_5 => ?_) (fun c_5 => ?_)
  · refine lv_iconst (v := 0) hx hb dX1_digit_20 (by decide) ?_
    exact W.iret (v := 0) hx hb hret (fun t ht hW => ⟨0, rfl, (by subst e_r_2; exact (Eq.symm (Eq.trans (if_pos c_5) rfl))), ht⟩) (fun _ h => absurd h List.not_mem_nil) dX1_digit_21
  · refine lv_aload_n hx hb dX1_digit_8 rfl (lv_at hl 0 rfl) ?_
    refine va_get (D := D) (ci := 1) (v := .ref (G 1)) (C := RX1) (T := TX1) (N := 2) hx hb hts iw_X1_digit_1 hown hK hP 0 rfl rfl 0 (by decide) (hts (.fieldLink RX1 9 "LeafTurner$BookText" "signs" "[C") (by decide +kernel)) (fun _ h9 => h9) rfl dX1_digit_9 ?_
    refine lv_iload_n hx hb dX1_digit_12 rfl (lv_at hl 1 rfl) ?_
    refine va_cald hx hb hK hP 1 1 rfl rfl (i := p0) (lt_thas e_r_2 c_5) dX1_digit_13 ?_
    refine lv_bipush (v := 48) hx hb dX1_digit_14 (by decide) ?_
    refine lv_isub hx hb dX1_digit_16 ?_
    refine lv_goto (tgt := 21) hx hb dX1_digit_17 (by decide) ?_
    exact W.iret (v := ((sg p0.toNatClampNeg) - 48)) hx hb hret (fun t ht hW => ⟨((sg p0.toNatClampNeg) - 48), rfl, (by subst e_r_2; exact (Eq.symm (Eq.trans (if_neg c_5) rfl))), ht⟩) (fun _ h => absurd h List.not_mem_nil) dX1_digit_21

def X1_add (len : Int32) (sg : Nat → Int32) (p0 : Int32) : (Int32) × (Nat → Int32) :=
  if len < 0 then
    (len, sg)
  else
    if 60 ≤ len then
      (len, sg)
    else
      ((len + 1), (upd sg len.toNatClampNeg (vp_nar .char p0)))
theorem iw_X1_add_1 : ∀ w ∈ wsX10, w ∈ wsX1_add := by decide +kernel
set_option maxHeartbeats 4000000 in
set_option maxRecDepth 100000 in
theorem c_X1_add (l : Launch) (D : va_G) (yI yC yO : ClassId) (G : Nat → Nat) (len : Int32) (sg : Nat → Int32) (p0 : Int32) (sz : Nat) : Met l yX1_add wsX1_add ({ frames := 0, cells := 0, slots := 0, locals := 0 }) (va_Pc [.ref (G 0), .int p0] (lt_M D yI yC yO (lt_Tx yC G len sg) sz)) (lt_Qv D (X1_add len sg p0) (fun u => lt_Tx yC G u.1 u.2) (va_A (lt_Tx yC G len sg) sz)) 0 0 (va_A (lt_Tx yC G len sg) sz) := by
  refine Met.ofW (cc := cX1_add) (maxL := 2) (ret := none) (by decide) rfl ?_
  intro p e s m args below meth c s₁ B0 hml hv
  obtain ⟨rfl, hsz, hP, hK0, hD0⟩ := hv
  have hx := B0.exec
  have hb := B0.bytes
  have hret := B0.returns
  have hts := atoms_spec (ws := wsX1_add) B0.pre
  have hown : s.vm.findClass RX1 = some m.cls := findClass_of_methodNamed B0.named
  have hlocks := B0.notSynchronized
  have hK := hK0.1
  have hN := hK0.2
  subst hsz
  have hD := hD0.self (sz := s.heap.size)
  generalize hAe : va_A (lt_Tx yC G len sg) s.heap.size = A at hD ⊢
  have hA : ∀ q : Nat, s.heap.size ≤ q → A q := fun q h => by rw [← hAe]; exact Or.inr h
  have hS : va_S A s.heap s.heap [] := va_S.rf
  have hP : va_P D vwCl (lt_Tx yC G len sg) s.heap := hP
  have hD : va_D A (lt_Tx yC G len sg) := hD
  have hl := lv_entry ([.ref (G 0), .int p0]) (n := 2) (Nat.le_of_ble_eq_true rfl)
  rw [lg_entry_eq]
  generalize (lg_sl ([.ref (G 0), .int p0]) ++ List.replicate (2 - (lg_sl ([.ref (G 0), .int p0])).length) Slot.unset).toArray = ls at hl ⊢
  have hl : lv_has ls 2 [(0, .ref (G 0)), (1, .int p0)] := hl
  refine lv_aload_n hx hb dX1_add_0 rfl (lv_at hl 0 rfl) ?_
  refine va_get (D := D) (ci := 1) (v := .int len) (C := RX1) (T := TX1) (N := 2) hx hb hts iw_X1_add_1 hown hK hP 0 rfl rfl 1 (by decide) (hts (.fieldLink RX1 15 "LeafTurner$BookText" "length" "I") (by decide +kernel)) (fun _ h9 => h9) rfl dX1_add_1 ?_
  refine lv_if_lt (tgt := 39) hx hb dX1_add_4 (by decide) (fun c_4 => ?_) (fun c_4 => ?_)
  · exact W.vret hx hb hret (fun t ht hW => ⟨⟨(len, sg), rfl, (Eq.symm (Eq.trans (if_pos c_4) rfl)), by rw [ht]; exact hP, hD⟩, hS.F ht⟩) hS.2.2 dX1_add_39
  · refine lv_aload_n hx hb dX1_add_7 rfl (lv_at hl 0 rfl) ?_
    refine va_get (D := D) (ci := 1) (v := .int len) (C := RX1) (T := TX1) (N := 2) hx hb hts iw_X1_add_1 hown hK hP 0 rfl rfl 1 (by decide) (hts (.fieldLink RX1 15 "LeafTurner$BookText" "length" "I") (by decide +kernel)) (fun _ h9 => h9) rfl dX1_add_8 ?_
    refine lv_aload_n hx hb dX1_add_11 rfl (lv_at hl 0 rfl) ?_
    refine va_get (D := D) (ci := 1) (v := .ref (G 1)) (C := RX1) (T := TX1) (N := 2) hx hb hts iw_X1_add_1 hown hK hP 0 rfl rfl 0 (by decide) (hts (.fieldLink RX1 9 "LeafTurner$BookText" "signs" "[C") (by decide +kernel)) (fun _ h9 => h9) rfl dX1_add_12 ?_
    refine va_alen (v := 60) hx hb hK hP 1 1 rfl rfl rfl dX1_add_15 ?_
    refine lv_icmp_ge (tgt := 39) hx hb dX1_add_16 (by decide) (fun c_16 => ?_) (fun c_16 => ?_)
    · exact W.vret hx hb hret (fun t ht hW => ⟨⟨(len, sg), rfl, (Eq.symm (Eq.trans (if_neg c_4) (Eq.trans (if_pos c_16) rfl))), by rw [ht]; exact hP, hD⟩, hS.F ht⟩) hS.2.2 dX1_add_39
    · refine lv_aload_n hx hb dX1_add_19 rfl (lv_at hl 0 rfl) ?_
      refine va_get (D := D) (ci := 1) (v := .ref (G 1)) (C := RX1) (T := TX1) (N := 2) hx hb hts iw_X1_add_1 hown hK hP 0 rfl rfl 0 (by decide) (hts (.fieldLink RX1 9 "LeafTurner$BookText" "signs" "[C") (by decide +kernel)) (fun _ h9 => h9) rfl dX1_add_20 ?_
      refine lv_aload_n hx hb dX1_add_23 rfl (lv_at hl 0 rfl) ?_
      refine va_get (D := D) (ci := 1) (v := .int len) (C := RX1) (T := TX1) (N := 2) hx hb hts iw_X1_add_1 hown hK hP 0 rfl rfl 1 (by decide) (hts (.fieldLink RX1 15 "LeafTurner$BookText" "length" "I") (by decide +kernel)) (fun _ h9 => h9) rfl dX1_add_24 ?_
      refine lv_iload_n hx hb dX1_add_27 rfl (lv_at hl 1 rfl) ?_
      refine va_cast hx hb hK hP hD hS 1 1 rfl rfl (i := len) (x := p0) (lt_vin (by decide) c_4 c_16) dX1_add_28 (fun H locs hP hD hS => ?_)
      have hP : va_P D vwCl (lt_Tx yC G len (upd sg len.toNatClampNeg (vp_nar .char p0))) H := hP
      have hD : va_D A (lt_Tx yC G len (upd sg len.toNatClampNeg (vp_nar .char p0))) := hD
      refine lv_aload_n hx hb dX1_add_29 rfl (lv_at hl 0 rfl) ?_
      refine lv_dup hx hb dX1_add_30 rfl ?_
      refine va_get (D := D) (ci := 1) (v := .int len) (C := RX1) (T := TX1) (N := 2) hx hb hts iw_X1_add_1 hown hK hP 0 rfl rfl 1 (by decide) (hts (.fieldLink RX1 15 "LeafTurner$BookText" "length" "I") (by decide +kernel)) (fun _ h9 => h9) rfl dX1_add_31 ?_
      refine lv_iconst (v := 1) hx hb dX1_add_34 (by decide) ?_
      refine lv_iadd hx hb dX1_add_35 ?_
      refine va_put (D := D) (ci := 1) (v := .int (len + 1)) (ty := .int) (C := RX1) (T := TX1) (N := 2) hx hb hts iw_X1_add_1 tyX1 tyX1_ok nmX1 hown hK hP hD hS 0 rfl rfl 1 (by decide) (hts (.fieldLink RX1 15 "LeafTurner$BookText" "length" "I") (by decide +kernel)) (fun _ h9 => h9) rfl (by decide +kernel) rfl rfl (Nat.le_of_ble_eq_true rfl) dX1_add_36 (fun H locs hP hD hS => ?_)
      have hP : va_P D vwCl (lt_Tx yC G (len + 1) (upd sg len.toNatClampNeg (vp_nar .char p0))) H := hP
      have hD : va_D A (lt_Tx yC G (len + 1) (upd sg len.toNatClampNeg (vp_nar .char p0))) := hD
      exact W.vret hx hb hret (fun t ht hW => ⟨⟨((len + 1), (upd sg len.toNatClampNeg (vp_nar .char p0))), rfl, (Eq.symm (Eq.trans (if_neg c_4) (Eq.trans (if_neg c_16) rfl))), by rw [ht]; exact hP, hD⟩, hS.F ht⟩) hS.2.2 dX1_add_39

def X1_readMark (len : Int32) (sg : Nat → Int32) (L' : Int32) (w' : Nat → Int32) (st' : Nat → Int32) (q' : Nat → Int32) (p0 : Int32) : Int32 × ((Nat → Int32)) :=
  let r_4 := X1_is len sg p0 42
  if r_4 = 0 then
    let r_20 := X1_is len sg p0 33
    if r_20 = 0 then
      (0, (q'))
    else
      let x_27 := X0_printTooMuchOnLast L' w' st' q'
      (1, (x_27))
  else
    let x_11 := X0_printNothingOnLast L' w' st' q'
    (1, (x_11))
set_option maxHeartbeats 4000000 in
set_option maxRecDepth 100000 in
theorem c_X1_readMark (l : Launch) (D : va_G) (yI yC yO : ClassId) (G : Nat → Nat) (B' : Nat → Nat) (len : Int32) (sg : Nat → Int32) (L' : Int32) (w' : Nat → Int32) (st' : Nat → Int32) (q' : Nat → Int32) (p0 : Int32) (sz : Nat) : Met l yX1_readMark wsX1_readMark ({ frames := 3, cells := 0, slots := 0, locals := 90 }) (va_Pc [.ref (G 0), .int p0, .ref (B' 1)] (lt_M D yI yC yO (lt_Tx yC G len sg ++ lt_Bk yI B' L' w' st' q') sz)) (lt_Qi D (X1_readMark len sg L' w' st' q' p0) (fun u => lt_Tx yC G len sg ++ lt_Bk yI B' L' w' st' u) (va_A (lt_Tx yC G len sg ++ lt_Bk yI B' L' w' st' q') sz)) 0 0 (va_A (lt_Tx yC G len sg ++ lt_Bk yI B' L' w' st' q') sz) := by
  refine Met.ofW (cc := cX1_readMark) (maxL := 3) (ret := (some .int)) (by decide) rfl ?_
  intro p e s m args below meth c s₁ B0 hml hv
  obtain ⟨rfl, hsz, hP, hK0, hD0⟩ := hv
  have hx := B0.exec
  have hb := B0.bytes
  have hret := B0.returns
  have hts := atoms_spec (ws := wsX1_readMark) B0.pre
  have hown : s.vm.findClass RX1 = some m.cls := findClass_of_methodNamed B0.named
  have hlocks := B0.notSynchronized
  have hK := hK0.1
  have hN := hK0.2
  subst hsz
  have hD := hD0.self (sz := s.heap.size)
  generalize hAe : va_A (lt_Tx yC G len sg ++ lt_Bk yI B' L' w' st' q') s.heap.size = A at hD ⊢
  have hA : ∀ q : Nat, s.heap.size ≤ q → A q := fun q h => by rw [← hAe]; exact Or.inr h
  have hS : va_S A s.heap s.heap [] := va_S.rf
  have hP : va_P D vwCl (lt_Tx yC G len sg ++ lt_Bk yI B' L' w' st' q') s.heap := hP
  have hD : va_D A (lt_Tx yC G len sg ++ lt_Bk yI B' L' w' st' q') := hD
  have hl := lv_entry ([.ref (G 0), .int p0, .ref (B' 1)]) (n := 3) (Nat.le_of_ble_eq_true rfl)
  rw [lg_entry_eq]
  generalize (lg_sl ([.ref (G 0), .int p0, .ref (B' 1)]) ++ List.replicate (3 - (lg_sl ([.ref (G 0), .int p0, .ref (B' 1)])).length) Slot.unset).toArray = ls at hl ⊢
  have hl : lv_has ls 3 [(0, .ref (G 0)), (1, .int p0), (2, .ref (B' 1))] := hl
  refine lv_aload_n hx hb dX1_readMark_0 rfl (lv_at hl 0 rfl) ?_
  refine lv_iload_n hx hb dX1_readMark_1 rfl (lv_at hl 1 rfl) ?_
  refine lv_bipush (v := 42) hx hb dX1_readMark_2 (by decide) ?_
  have hPc := hP.sub (ws' := lt_Tx yC G len sg) [0, 1] rfl
  refine lt_cR (va_runV (As := [.int p0, .int 42]) (rest := []) ⟨hx, hb, hml, hown, hts⟩ (c_X1_is l D yI yC yO G len sg p0 42 ) (cwV 2 hts gX1_readMark_X1_is rfl rfl rfl (by decide +kernel) ⟨Nat.le_of_ble_eq_true rfl, Nat.le_of_ble_eq_true rfl⟩) (lt_pV hK0 hPc (va_recv hK hPc (ci := 1) (q0 := 0) rfl rfl)) rfl rfl hl.1 rfl (lv_room (Nat.le_of_ble_eq_true rfl)) dX1_readMark_4 ⟨Nat.zero_le _, Nat.zero_le _⟩) (fun r_4 e_r_4 => ?_)
  refine lv_if_eq (tgt := 16) hx hb dX1_readMark_7 (by decide) (fun c_7 => ?_) (fun c_7 => ?_)
  · refine lv_aload_n hx hb dX1_readMark_16 rfl (lv_at hl 0 rfl) ?_
    refine lv_iload_n hx hb dX1_readMark_17 rfl (lv_at hl 1 rfl) ?_
    refine lv_bipush (v := 33) hx hb dX1_readMark_18 (by decide) ?_
    have hPc := hP.sub (ws' := lt_Tx yC G len sg) [0, 1] rfl
    refine lt_cR (va_runV (As := [.int p0, .int 33]) (rest := []) ⟨hx, hb, hml, hown, hts⟩ (c_X1_is l D yI yC yO G len sg p0 33 ) (cwV 2 hts gX1_readMark_X1_is rfl rfl rfl (by decide +kernel) ⟨Nat.le_of_ble_eq_true rfl, Nat.le_of_ble_eq_true rfl⟩) (lt_pV hK0 hPc (va_recv hK hPc (ci := 1) (q0 := 0) rfl rfl)) rfl rfl hl.1 rfl (lv_room (Nat.le_of_ble_eq_true rfl)) dX1_readMark_20 ⟨Nat.zero_le _, Nat.zero_le _⟩) (fun r_20 e_r_20 => ?_)
    refine lv_if_eq (tgt := 32) hx hb dX1_readMark_23 (by decide) (fun c_23 => ?_) (fun c_23 => ?_)
    · refine lv_iconst (v := 0) hx hb dX1_readMark_32 (by decide) ?_
      exact W.iret (v := 0) hx hb hret (fun t ht hW => ⟨⟨0, (q'), rfl, (by subst e_r_20 e_r_4; exact (Eq.symm (Eq.trans (if_pos c_7) (Eq.trans (if_pos c_23) rfl)))), by rw [ht]; exact hP, hD⟩, hS.F ht⟩) hS.2.2 dX1_readMark_33
    · refine lv_aload_n hx hb dX1_readMark_26 rfl (lv_at hl 2 rfl) ?_
      have hPc := hP.sub (ws' := lt_Bk yI B' L' w' st' q') [2, 3, 4, 5, 6, 7, 8] rfl
      have hDc := hD.sub (ws' := lt_Bk yI B' L' w' st' q') [2, 3, 4, 5, 6, 7, 8] (by decide) rfl
      refine lt_cWv (wc := lt_Bk yI B' L' w' st' q') (wr := [(G 0, .inr (1, [.ref (G 1), .int len])), (G 1, .inl (yC, 60, .inl sg))]) (va_runV (As := []) (rest := []) ⟨hx, hb, hml, hown, hts⟩ (c_X0_printTooMuchOnLast l D yI yC yO B' L' w' st' q' _ ) (cwV 0 hts gX1_readMark_X0_printTooMuchOnLast rfl rfl rfl (by decide +kernel) ⟨Nat.le_of_ble_eq_true rfl, Nat.le_of_ble_eq_true rfl⟩) (lt_qV hK0 hPc hDc (va_recv hK hPc (ci := 0) (q0 := 0) rfl rfl)) rfl rfl hl.1 rfl (lv_room (Nat.le_of_ble_eq_true rfl)) dX1_readMark_27 ⟨Nat.zero_le _, Nat.zero_le _⟩) hP hD hS hA [2, 3, 4, 5, 6, 7, 8] [0, 1] rfl rfl (by decide) (by decide) (fun x_27 e_x_27 H locs hP hD hS => ?_)
      have hP := hP.sub (ws' := lt_Tx yC G len sg ++ lt_Bk yI B' L' w' st' x_27) [0, 1, 2, 3, 4, 5, 6, 7, 8] rfl
      have hD := hD.sub (ws' := lt_Tx yC G len sg ++ lt_Bk yI B' L' w' st' x_27) [0, 1, 2, 3, 4, 5, 6, 7, 8] (by decide) rfl
      refine lv_iconst (v := 1) hx hb dX1_readMark_30 (by decide) ?_
      exact W.iret (v := 1) hx hb hret (fun t ht hW => ⟨⟨1, (x_27), rfl, (by subst e_x_27 e_r_20 e_r_4; exact (Eq.symm (Eq.trans (if_pos c_7) (Eq.trans (if_neg c_23) rfl)))), by rw [ht]; exact hP, hD⟩, hS.F ht⟩) hS.2.2 dX1_readMark_31
  · refine lv_aload_n hx hb dX1_readMark_10 rfl (lv_at hl 2 rfl) ?_
    have hPc := hP.sub (ws' := lt_Bk yI B' L' w' st' q') [2, 3, 4, 5, 6, 7, 8] rfl
    have hDc := hD.sub (ws' := lt_Bk yI B' L' w' st' q') [2, 3, 4, 5, 6, 7, 8] (by decide) rfl
    refine lt_cWv (wc := lt_Bk yI B' L' w' st' q') (wr := [(G 0, .inr (1, [.ref (G 1), .int len])), (G 1, .inl (yC, 60, .inl sg))]) (va_runV (As := []) (rest := []) ⟨hx, hb, hml, hown, hts⟩ (c_X0_printNothingOnLast l D yI yC yO B' L' w' st' q' _ ) (cwV 0 hts gX1_readMark_X0_printNothingOnLast rfl rfl rfl (by decide +kernel) ⟨Nat.le_of_ble_eq_true rfl, Nat.le_of_ble_eq_true rfl⟩) (lt_qV hK0 hPc hDc (va_recv hK hPc (ci := 0) (q0 := 0) rfl rfl)) rfl rfl hl.1 rfl (lv_room (Nat.le_of_ble_eq_true rfl)) dX1_readMark_11 ⟨Nat.zero_le _, Nat.zero_le _⟩) hP hD hS hA [2, 3, 4, 5, 6, 7, 8] [0, 1] rfl rfl (by decide) (by decide) (fun x_11 e_x_11 H locs hP hD hS => ?_)
    have hP := hP.sub (ws' := lt_Tx yC G len sg ++ lt_Bk yI B' L' w' st' x_11) [0, 1, 2, 3, 4, 5, 6, 7, 8] rfl
    have hD := hD.sub (ws' := lt_Tx yC G len sg ++ lt_Bk yI B' L' w' st' x_11) [0, 1, 2, 3, 4, 5, 6, 7, 8] (by decide) rfl
    refine lv_iconst (v := 1) hx hb dX1_readMark_14 (by decide) ?_
    exact W.iret (v := 1) hx hb hret (fun t ht hW => ⟨⟨1, (x_11), rfl, (by subst e_x_11 e_r_4; exact (Eq.symm (Eq.trans (if_neg c_7) rfl))), by rw [ht]; exact hP, hD⟩, hS.F ht⟩) hS.2.2 dX1_readMark_15

def X1_readInto_L9 (len : Int32) (sg : Nat → Int32) (L' : Int32) (w' : Nat → Int32) (st' : Nat → Int32) (q' : Nat → Int32) : Nat → (Int32) → (Int32) → (Int32) → (Nat → Int32) → (Nat → Int32) → (Nat → Int32) → Int32 × ((Int32) × (Nat → Int32) × (Nat → Int32) × (Nat → Int32))
  | 0, _, _, _, _, _, _ => (0, (L', w', st', q'))
  | fu + 1, v2, v3, L'0, w'0, st'0, q'0 =>
    if 30 ≤ v3 then
      (v2, (L'0, w'0, st'0, q'0))
    else
      let r_17 := X1_isDigit len sg v2
      if r_17 = 0 then
        (v2, (L'0, w'0, st'0, q'0))
      else
        let r_27 := X1_digit len sg v2
        let r_42 := X1_is len sg (v2 + 1) 115
        if r_42 = 0 then
          let x_76 := X0_addLeaf L'0 w'0 st'0 q'0 r_27 0
          let x_83 := X1_readMark len sg x_76.1 x_76.2.1 x_76.2.2.1 x_76.2.2.2 (v2 + 1)
          let v_87 := (v2 + 1) + x_83.1
          if v_87 = len then
            ((-5), (x_76.1, x_76.2.1, x_76.2.2.1, x_83.2))
          else
            let r_103 := X1_is len sg v_87 44
            if r_103 = 0 then
              (v_87, (x_76.1, x_76.2.1, x_76.2.2.1, x_83.2))
            else
              if v3 = 29 then
                (v_87, (x_76.1, x_76.2.1, x_76.2.2.1, x_83.2))
              else
                X1_readInto_L9 len sg L' w' st' q' fu (v_87 + 1) (v3 + 1) x_76.1 x_76.2.1 x_76.2.2.1 x_83.2
        else
          let r_53 := X1_isDigit len sg ((v2 + 1) + 1)
          if r_53 = 0 then
            (((v2 + 1) + 1), (L'0, w'0, st'0, q'0))
          else
            let r_63 := X1_digit len sg ((v2 + 1) + 1)
            let x_76 := X0_addLeaf L'0 w'0 st'0 q'0 r_27 r_63
            let x_83 := X1_readMark len sg x_76.1 x_76.2.1 x_76.2.2.1 x_76.2.2.2 (((v2 + 1) + 1) + 1)
            let v_87 := (((v2 + 1) + 1) + 1) + x_83.1
            if v_87 = len then
              ((-5), (x_76.1, x_76.2.1, x_76.2.2.1, x_83.2))
            else
              let r_103 := X1_is len sg v_87 44
              if r_103 = 0 then
                (v_87, (x_76.1, x_76.2.1, x_76.2.2.1, x_83.2))
              else
                if v3 = 29 then
                  (v_87, (x_76.1, x_76.2.1, x_76.2.2.1, x_83.2))
                else
                  X1_readInto_L9 len sg L' w' st' q' fu (v_87 + 1) (v3 + 1) x_76.1 x_76.2.1 x_76.2.2.1 x_83.2
def X1_readInto (len : Int32) (sg : Nat → Int32) (L' : Int32) (w' : Nat → Int32) (st' : Nat → Int32) (q' : Nat → Int32) : Int32 × ((Int32) × (Nat → Int32) × (Nat → Int32) × (Nat → Int32)) :=
  X1_readInto_L9 len sg L' w' st' q' (((30 : Int32).toInt - (0 : Int32).toInt).toNat + 1) 0 0 0 w' st' q'
theorem iw_X1_readInto_0 : ∀ w ∈ wsX00, w ∈ wsX1_readInto := by decide +kernel
theorem iw_X1_readInto_1 : ∀ w ∈ wsX10, w ∈ wsX1_readInto := by decide +kernel
set_option maxHeartbeats 4000000 in
set_option maxRecDepth 100000 in
theorem c_X1_readInto (l : Launch) (D : va_G) (yI yC yO : ClassId) (G : Nat → Nat) (B' : Nat → Nat) (len : Int32) (sg : Nat → Int32) (L' : Int32) (w' : Nat → Int32) (st' : Nat → Int32) (q' : Nat → Int32) (sz : Nat) : Met l yX1_readInto wsX1_readInto ({ frames := 4, cells := 0, slots := 0, locals := 120 }) (va_Pc [.ref (G 0), .ref (B' 1)] (lt_M D yI yC yO (lt_Tx yC G len sg ++ lt_Bk yI B' L' w' st' q') sz)) (lt_Qi D (X1_readInto len sg L' w' st' q') (fun u => lt_Tx yC G len sg ++ lt_Bk yI B' u.1 u.2.1 u.2.2.1 u.2.2.2) (va_A (lt_Tx yC G len sg ++ lt_Bk yI B' L' w' st' q') sz)) 0 0 (va_A (lt_Tx yC G len sg ++ lt_Bk yI B' L' w' st' q') sz) := by
  refine Met.ofW (cc := cX1_readInto) (maxL := 6) (ret := (some .int)) (by decide) rfl ?_
  intro p e s m args below meth c s₁ B0 hml hv
  obtain ⟨rfl, hsz, hP, hK0, hD0⟩ := hv
  have hx := B0.exec
  have hb := B0.bytes
  have hret := B0.returns
  have hts := atoms_spec (ws := wsX1_readInto) B0.pre
  have hown : s.vm.findClass RX1 = some m.cls := findClass_of_methodNamed B0.named
  have hlocks := B0.notSynchronized
  have hK := hK0.1
  have hN := hK0.2
  subst hsz
  have hD := hD0.self (sz := s.heap.size)
  generalize hAe : va_A (lt_Tx yC G len sg ++ lt_Bk yI B' L' w' st' q') s.heap.size = A at hD ⊢
  have hA : ∀ q : Nat, s.heap.size ≤ q → A q := fun q h => by rw [← hAe]; exact Or.inr h
  have hS : va_S A s.heap s.heap [] := va_S.rf
  have hP : va_P D vwCl (lt_Tx yC G len sg ++ lt_Bk yI B' L' w' st' q') s.heap := hP
  have hD : va_D A (lt_Tx yC G len sg ++ lt_Bk yI B' L' w' st' q') := hD
  have hl := lv_entry ([.ref (G 0), .ref (B' 1)]) (n := 6) (Nat.le_of_ble_eq_true rfl)
  rw [lg_entry_eq]
  generalize (lg_sl ([.ref (G 0), .ref (B' 1)]) ++ List.replicate (6 - (lg_sl ([.ref (G 0), .ref (B' 1)])).length) Slot.unset).toArray = ls at hl ⊢
  have hl : lv_has ls 6 [(0, .ref (G 0)), (1, .ref (B' 1))] := hl
  refine lv_aload_n hx hb dX1_readInto_0 rfl (lv_at hl 1 rfl) ?_
  refine lv_iconst (v := 0) hx hb dX1_readInto_1 (by decide) ?_
  refine va_putN (D := D) (ci := 0) (v := .int 0) (ty := .int) (C := RX0) (T := TX0) (N := 4) hx hb hts iw_X1_readInto_0 tyX0 tyX0_ok nmX0 hown hK hP hD hS 2 rfl rfl 3 (by decide) (va_Nw.use rfl (hN _ lt_nw7)) (fun _ h9 => h9) rfl (by decide +kernel) rfl rfl (Nat.le_of_ble_eq_true rfl) dX1_readInto_2 (fun H locs hP hD hS => ?_)
  have hP : va_P D vwCl (lt_Tx yC G len sg ++ lt_Bk yI B' 0 w' st' q') H := hP
  have hD : va_D A (lt_Tx yC G len sg ++ lt_Bk yI B' 0 w' st' q') := hD
  refine lv_iconst (v := 0) hx hb dX1_readInto_5 (by decide) ?_
  refine lv_istore_n (lv' := [(2, .int 0), (0, .ref (G 0)), (1, .ref (B' 1))]) hx hb dX1_readInto_6 rfl hl (by decide) rfl (fun ls hl => ?_)
  refine lv_iconst (v := 0) hx hb dX1_readInto_7 (by decide) ?_
  refine lv_istore_n (lv' := [(3, .int 0), (2, .int 0), (0, .ref (G 0)), (1, .ref (B' 1))]) hx hb dX1_readInto_8 rfl hl (by decide) rfl (fun ls hl => ?_)
  refine lt_loop (σ := (Int32) × (Int32) × (Int32) × (Nat → Int32) × (Nat → Int32) × (Nat → Int32)) (fun fu (x : (Int32) × (Int32) × (Int32) × (Nat → Int32) × (Nat → Int32) × (Nat → Int32)) H locs ls => ∃ (v2 : Int32) (v3 : Int32) (L'0 : Int32) (w'0 : Nat → Int32) (st'0 : Nat → Int32) (q'0 : Nat → Int32), x = (v2, v3, L'0, w'0, st'0, q'0) ∧ lt_fu fu (30) (v3) ∧ X1_readInto_L9 len sg L' w' st' q' fu v2 v3 L'0 w'0 st'0 q'0 = X1_readInto len sg L' w' st' q' ∧ va_P D vwCl (lt_Tx yC G len sg ++ lt_Bk yI B' L'0 w'0 st'0 q'0) H ∧ va_D A (lt_Tx yC G len sg ++ lt_Bk yI B' L'0 w'0 st'0 q'0) ∧ va_S A s.heap H locs ∧ lv_has ls 6 [(3, .int v3), (2, .int v2), (0, .ref (G 0)), (1, .ref (B' 1))]) ?_ ?_ (((30 : Int32).toInt - (0 : Int32).toInt).toNat + 1) (0, 0, 0, w', st', q') _ _ _ ⟨0, 0, 0, w', st', q', rfl, lt_fuI _ _, (Eq.symm rfl), hP, hD, hS, (lv_sub hl [0, 1, 2, 3] rfl)⟩
  · rintro x H locs ls ⟨_, _, _, _, _, _, -, hF, -⟩
    exact lt_fu0 hF
  · rintro fu ih x H locs ls ⟨v2, v3, L'0, w'0, st'0, q'0, rfl, hF, hT, hP, hD, hS, hl⟩
    refine lv_iload_n hx hb dX1_readInto_9 rfl (lv_at hl 0 rfl) ?_
    refine lv_bipush (v := 30) hx hb dX1_readInto_10 (by decide) ?_
    refine lv_icmp_ge (tgt := 126) hx hb dX1_readInto_12 (by decide) (fun c_12 => ?_) (fun c_12 => ?_)
    · refine lv_iload_n hx hb dX1_readInto_126 rfl (lv_at hl 1 rfl) ?_
      exact W.iret (v := v2) hx hb hret (fun t ht hW => ⟨⟨v2, (L'0, w'0, st'0, q'0), rfl, (Eq.trans (Eq.symm (Eq.trans (if_pos c_12) rfl)) hT), by rw [ht]; exact hP, hD⟩, hS.F ht⟩) hS.2.2 dX1_readInto_127
    · refine lv_aload_n hx hb dX1_readInto_15 rfl (lv_at hl 2 rfl) ?_
      refine lv_iload_n hx hb dX1_readInto_16 rfl (lv_at hl 1 rfl) ?_
      have hPc := hP.sub (ws' := lt_Tx yC G len sg) [0, 1] rfl
      refine lt_cR (va_runV (As := [.int v2]) (rest := []) ⟨hx, hb, hml, hown, hts⟩ (c_X1_isDigit l D yI yC yO G len sg v2 ) (cwV 1 hts gX1_readInto_X1_isDigit rfl rfl rfl (by decide +kernel) ⟨Nat.le_of_ble_eq_true rfl, Nat.le_of_ble_eq_true rfl⟩) (lt_pV hK0 hPc (va_recv hK hPc (ci := 1) (q0 := 0) rfl rfl)) rfl rfl hl.1 rfl (lv_room (Nat.le_of_ble_eq_true rfl)) dX1_readInto_17 ⟨Nat.zero_le _, Nat.zero_le _⟩) (fun r_17 e_r_17 => ?_)
      refine lv_if_ne (tgt := 25) hx hb dX1_readInto_20 (by decide) (fun c_20 => ?_) (fun c_20 => ?_)
      · refine lv_aload_n hx hb dX1_readInto_25 rfl (lv_at hl 2 rfl) ?_
        refine lv_iload_n hx hb dX1_readInto_26 rfl (lv_at hl 1 rfl) ?_
        have hPc := hP.sub (ws' := lt_Tx yC G len sg) [0, 1] rfl
        refine lt_cR (va_runV (As := [.int v2]) (rest := []) ⟨hx, hb, hml, hown, hts⟩ (c_X1_digit l D yI yC yO G len sg v2 ) (cwV 1 hts gX1_readInto_X1_digit rfl rfl rfl (by decide +kernel) ⟨Nat.le_of_ble_eq_true rfl, Nat.le_of_ble_eq_true rfl⟩) (lt_pV hK0 hPc (va_recv hK hPc (ci := 1) (q0 := 0) rfl rfl)) rfl rfl hl.1 rfl (lv_room (Nat.le_of_ble_eq_true rfl)) dX1_readInto_27 ⟨Nat.zero_le _, Nat.zero_le _⟩) (fun r_27 e_r_27 => ?_)
        refine lv_istore (lv' := [(4, .int r_27), (3, .int v3), (2, .int v2), (0, .ref (G 0)), (1, .ref (B' 1))]) hx hb dX1_readInto_30 hl (by decide) rfl (fun ls hl => ?_)
        refine lv_iconst (v := 0) hx hb dX1_readInto_32 (by decide) ?_
        refine lv_istore (lv' := [(5, .int 0), (4, .int r_27), (3, .int v3), (2, .int v2), (0, .ref (G 0)), (1, .ref (B' 1))]) hx hb dX1_readInto_33 hl (by decide) rfl (fun ls hl => ?_)
        refine lv_iinc (v := (v2 + 1)) (lv' := [(2, .int (v2 + 1)), (5, .int 0), (4, .int r_27), (3, .int v3), (0, .ref (G 0)), (1, .ref (B' 1))]) hx hb dX1_readInto_35 hl (k := 3) rfl (rfl) (by decide) rfl (fun ls hl => ?_)
        refine lv_aload_n hx hb dX1_readInto_38 rfl (lv_at hl 4 rfl) ?_
        refine lv_iload_n hx hb dX1_readInto_39 rfl (lv_at hl 0 rfl) ?_
        refine lv_bipush (v := 115) hx hb dX1_readInto_40 (by decide) ?_
        have hPc := hP.sub (ws' := lt_Tx yC G len sg) [0, 1] rfl
        refine lt_cR (va_runV (As := [.int (v2 + 1), .int 115]) (rest := []) ⟨hx, hb, hml, hown, hts⟩ (c_X1_is l D yI yC yO G len sg (v2 + 1) 115 ) (cwV 2 hts gX1_readInto_X1_is rfl rfl rfl (by decide +kernel) ⟨Nat.le_of_ble_eq_true rfl, Nat.le_of_ble_eq_true rfl⟩) (lt_pV hK0 hPc (va_recv hK hPc (ci := 1) (q0 := 0) rfl rfl)) rfl rfl hl.1 rfl (lv_room (Nat.le_of_ble_eq_true rfl)) dX1_readInto_42 ⟨Nat.zero_le _, Nat.zero_le _⟩) (fun r_42 e_r_42 => ?_)
        refine lv_if_eq (tgt := 71) hx hb dX1_readInto_45 (by decide) (fun c_45 => ?_) (fun c_45 => ?_)
        · refine lv_aload_n hx hb dX1_readInto_71 rfl (lv_at hl 5 rfl) ?_
          refine lv_iload hx hb dX1_readInto_72 (lv_at hl 2 rfl) ?_
          refine lv_iload hx hb dX1_readInto_74 (lv_at hl 1 rfl) ?_
          have hPc := hP.sub (ws' := lt_Bk yI B' L'0 w'0 st'0 q'0) [2, 3, 4, 5, 6, 7, 8] rfl
          have hDc := hD.sub (ws' := lt_Bk yI B' L'0 w'0 st'0 q'0) [2, 3, 4, 5, 6, 7, 8] (by decide) rfl
          refine lt_cWv (wc := lt_Bk yI B' L'0 w'0 st'0 q'0) (wr := [(G 0, .inr (1, [.ref (G 1), .int len])), (G 1, .inl (yC, 60, .inl sg))]) (va_runV (As := [.int r_27, .int 0]) (rest := []) ⟨hx, hb, hml, hown, hts⟩ (c_X0_addLeaf l D yI yC yO B' L'0 w'0 st'0 q'0 r_27 0 _ ) (cwV 2 hts gX1_readInto_X0_addLeaf rfl rfl rfl (by decide +kernel) ⟨Nat.le_of_ble_eq_true rfl, Nat.le_of_ble_eq_true rfl⟩) (lt_qV hK0 hPc hDc (va_recv hK hPc (ci := 0) (q0 := 0) rfl rfl)) rfl rfl hl.1 rfl (lv_room (Nat.le_of_ble_eq_true rfl)) dX1_readInto_76 ⟨Nat.zero_le _, Nat.zero_le _⟩) hP hD hS hA [2, 3, 4, 5, 6, 7, 8] [0, 1] rfl rfl (by decide) (by decide) (fun x_76 e_x_76 H locs hP hD hS => ?_)
          have hP := hP.sub (ws' := lt_Tx yC G len sg ++ lt_Bk yI B' x_76.1 x_76.2.1 x_76.2.2.1 x_76.2.2.2) [0, 1, 2, 3, 4, 5, 6, 7, 8] rfl
          have hD := hD.sub (ws' := lt_Tx yC G len sg ++ lt_Bk yI B' x_76.1 x_76.2.1 x_76.2.2.1 x_76.2.2.2) [0, 1, 2, 3, 4, 5, 6, 7, 8] (by decide) rfl
          refine lv_iload_n hx hb dX1_readInto_79 rfl (lv_at hl 0 rfl) ?_
          refine lv_aload_n hx hb dX1_readInto_80 rfl (lv_at hl 4 rfl) ?_
          refine lv_iload_n hx hb dX1_readInto_81 rfl (lv_at hl 0 rfl) ?_
          refine lv_aload_n hx hb dX1_readInto_82 rfl (lv_at hl 5 rfl) ?_
          have hPc := hP.sub (ws' := lt_Tx yC G len sg ++ lt_Bk yI B' x_76.1 x_76.2.1 x_76.2.2.1 x_76.2.2.2) [0, 1, 2, 3, 4, 5, 6, 7, 8] rfl
          have hDc := hD.sub (ws' := lt_Tx yC G len sg ++ lt_Bk yI B' x_76.1 x_76.2.1 x_76.2.2.1 x_76.2.2.2) [0, 1, 2, 3, 4, 5, 6, 7, 8] (by decide) rfl
          refine lt_cWi (wc := lt_Tx yC G len sg ++ lt_Bk yI B' x_76.1 x_76.2.1 x_76.2.2.1 x_76.2.2.2) (wr := []) (va_runV (As := [.int (v2 + 1), .ref (B' 1)]) (rest := [.int (v2 + 1)]) ⟨hx, hb, hml, hown, hts⟩ (c_X1_readMark l D yI yC yO G B' len sg x_76.1 x_76.2.1 x_76.2.2.1 x_76.2.2.2 (v2 + 1) _ ) (cwV 2 hts gX1_readInto_X1_readMark rfl rfl rfl (by decide +kernel) ⟨Nat.le_of_ble_eq_true rfl, Nat.le_of_ble_eq_true rfl⟩) (lt_qV hK0 hPc hDc (va_recv hK hPc (ci := 1) (q0 := 0) rfl rfl)) rfl rfl hl.1 rfl (lv_room (Nat.le_of_ble_eq_true rfl)) dX1_readInto_83 ⟨Nat.zero_le _, Nat.zero_le _⟩) hP hD hS hA [0, 1, 2, 3, 4, 5, 6, 7, 8] [] rfl rfl (by decide) (by decide) (fun x_83 e_x_83 H locs hP hD hS => ?_)
          have hP := hP.sub (ws' := lt_Tx yC G len sg ++ lt_Bk yI B' x_76.1 x_76.2.1 x_76.2.2.1 x_83.2) [0, 1, 2, 3, 4, 5, 6, 7, 8] rfl
          have hD := hD.sub (ws' := lt_Tx yC G len sg ++ lt_Bk yI B' x_76.1 x_76.2.1 x_76.2.2.1 x_83.2) [0, 1, 2, 3, 4, 5, 6, 7, 8] (by decide) rfl
          refine lv_iadd hx hb dX1_readInto_86 ?_
          refine lv_topi (fun v_87 e_v_87 => ?_)
          refine lv_istore_n (lv' := [(2, .int v_87), (5, .int 0), (4, .int r_27), (3, .int v3), (0, .ref (G 0)), (1, .ref (B' 1))]) hx hb dX1_readInto_87 rfl hl (by decide) rfl (fun ls hl => ?_)
          refine lv_iload_n hx hb dX1_readInto_88 rfl (lv_at hl 0 rfl) ?_
          refine lv_aload_n hx hb dX1_readInto_89 rfl (lv_at hl 4 rfl) ?_
          refine va_get (D := D) (ci := 1) (v := .int len) (C := RX1) (T := TX1) (N := 2) hx hb hts iw_X1_readInto_1 hown hK hP 0 rfl rfl 1 (by decide) (hts (.fieldLink RX1 15 "LeafTurner$BookText" "length" "I") (by decide +kernel)) (fun _ h9 => h9) rfl dX1_readInto_90 ?_
          refine lv_icmp_ne (tgt := 99) hx hb dX1_readInto_93 (by decide) (fun c_93 => ?_) (fun c_93 => ?_)
          · refine lv_aload_n hx hb dX1_readInto_99 rfl (lv_at hl 4 rfl) ?_
            refine lv_iload_n hx hb dX1_readInto_100 rfl (lv_at hl 0 rfl) ?_
            refine lv_bipush (v := 44) hx hb dX1_readInto_101 (by decide) ?_
            have hPc := hP.sub (ws' := lt_Tx yC G len sg) [0, 1] rfl
            refine lt_cR (va_runV (As := [.int v_87, .int 44]) (rest := []) ⟨hx, hb, hml, hown, hts⟩ (c_X1_is l D yI yC yO G len sg v_87 44 ) (cwV 2 hts gX1_readInto_X1_is rfl rfl rfl (by decide +kernel) ⟨Nat.le_of_ble_eq_true rfl, Nat.le_of_ble_eq_true rfl⟩) (lt_pV hK0 hPc (va_recv hK hPc (ci := 1) (q0 := 0) rfl rfl)) rfl rfl hl.1 rfl (lv_room (Nat.le_of_ble_eq_true rfl)) dX1_readInto_103 ⟨Nat.zero_le _, Nat.zero_le _⟩) (fun r_103 e_r_103 => ?_)
            refine lv_if_eq (tgt := 115) hx hb dX1_readInto_106 (by decide) (fun c_106 => ?_) (fun c_106 => ?_)
            · refine lv_iload_n hx hb dX1_readInto_115 rfl (lv_at hl 0 rfl) ?_
              exact W.iret (v := v_87) hx hb hret (fun t ht hW => ⟨⟨v_87, (x_76.1, x_76.2.1, x_76.2.2.1, x_83.2), rfl, (by subst e_r_103 e_v_87 e_x_83 e_x_76 e_r_42 e_r_27 e_r_17; exact (Eq.trans (Eq.symm (Eq.trans (if_neg c_12) (Eq.trans (if_neg c_20) (Eq.trans (if_pos c_45) (Eq.trans (if_neg c_93) (Eq.trans (if_pos c_106) rfl)))))) hT)), by rw [ht]; exact hP, hD⟩, hS.F ht⟩) hS.2.2 dX1_readInto_116
            · refine lv_iload_n hx hb dX1_readInto_109 rfl (lv_at hl 3 rfl) ?_
              refine lv_bipush (v := 29) hx hb dX1_readInto_110 (by decide) ?_
              refine lv_icmp_ne (tgt := 117) hx hb dX1_readInto_112 (by decide) (fun c_112 => ?_) (fun c_112 => ?_)
              · refine lv_iinc (v := (v_87 + 1)) (lv' := [(2, .int (v_87 + 1)), (5, .int 0), (4, .int r_27), (3, .int v3), (0, .ref (G 0)), (1, .ref (B' 1))]) hx hb dX1_readInto_117 hl (k := 0) rfl (rfl) (by decide) rfl (fun ls hl => ?_)
                refine lv_iinc (v := (v3 + 1)) (lv' := [(3, .int (v3 + 1)), (2, .int (v_87 + 1)), (5, .int 0), (4, .int r_27), (0, .ref (G 0)), (1, .ref (B' 1))]) hx hb dX1_readInto_120 hl (k := 3) rfl (rfl) (by decide) rfl (fun ls hl => ?_)
                refine lv_goto (tgt := 9) hx hb dX1_readInto_123 (by decide) ?_
                exact ih ((v_87 + 1), (v3 + 1), x_76.1, x_76.2.1, x_76.2.2.1, x_83.2) _ _ _ ⟨(v_87 + 1), (v3 + 1), x_76.1, x_76.2.1, x_76.2.2.1, x_83.2, rfl, lt_fuS hF (lt_nle c_12), (by subst e_r_103 e_v_87 e_x_83 e_x_76 e_r_42 e_r_27 e_r_17; exact (Eq.trans (Eq.symm (Eq.trans (if_neg c_12) (Eq.trans (if_neg c_20) (Eq.trans (if_pos c_45) (Eq.trans (if_neg c_93) (Eq.trans (if_neg c_106) (Eq.trans (if_neg c_112) rfl))))))) hT)), hP, hD, hS, lv_sub hl [0, 1, 4, 5] rfl⟩
              · refine lv_iload_n hx hb dX1_readInto_115 rfl (lv_at hl 0 rfl) ?_
                exact W.iret (v := v_87) hx hb hret (fun t ht hW => ⟨⟨v_87, (x_76.1, x_76.2.1, x_76.2.2.1, x_83.2), rfl, (by subst e_r_103 e_v_87 e_x_83 e_x_76 e_r_42 e_r_27 e_r_17; exact (Eq.trans (Eq.symm (Eq.trans (if_neg c_12) (Eq.trans (if_neg c_20) (Eq.trans (if_pos c_45) (Eq.trans (if_neg c_93) (Eq.trans (if_neg c_106) (Eq.trans (if_pos c_112) rfl))))))) hT)), by rw [ht]; exact hP, hD⟩, hS.F ht⟩) hS.2.2 dX1_readInto_116
          · refine lv_bipush (v := (-5)) hx hb dX1_readInto_96 (by decide) ?_
            exact W.iret (v := (-5)) hx hb hret (fun t ht hW => ⟨⟨(-5), (x_76.1, x_76.2.1, x_76.2.2.1, x_83.2), rfl, (by subst e_v_87 e_x_83 e_x_76 e_r_42 e_r_27 e_r_17; exact (Eq.trans (Eq.symm (Eq.trans (if_neg c_12) (Eq.trans (if_neg c_20) (Eq.trans (if_pos c_45) (Eq.trans (if_pos c_93) rfl))))) hT)), by rw [ht]; exact hP, hD⟩, hS.F ht⟩) hS.2.2 dX1_readInto_98
        · refine lv_iinc (v := ((v2 + 1) + 1)) (lv' := [(2, .int ((v2 + 1) + 1)), (5, .int 0), (4, .int r_27), (3, .int v3), (0, .ref (G 0)), (1, .ref (B' 1))]) hx hb dX1_readInto_48 hl (k := 0) rfl (rfl) (by decide) rfl (fun ls hl => ?_)
          refine lv_aload_n hx hb dX1_readInto_51 rfl (lv_at hl 4 rfl) ?_
          refine lv_iload_n hx hb dX1_readInto_52 rfl (lv_at hl 0 rfl) ?_
          have hPc := hP.sub (ws' := lt_Tx yC G len sg) [0, 1] rfl
          refine lt_cR (va_runV (As := [.int ((v2 + 1) + 1)]) (rest := []) ⟨hx, hb, hml, hown, hts⟩ (c_X1_isDigit l D yI yC yO G len sg ((v2 + 1) + 1) ) (cwV 1 hts gX1_readInto_X1_isDigit rfl rfl rfl (by decide +kernel) ⟨Nat.le_of_ble_eq_true rfl, Nat.le_of_ble_eq_true rfl⟩) (lt_pV hK0 hPc (va_recv hK hPc (ci := 1) (q0 := 0) rfl rfl)) rfl rfl hl.1 rfl (lv_room (Nat.le_of_ble_eq_true rfl)) dX1_readInto_53 ⟨Nat.zero_le _, Nat.zero_le _⟩) (fun r_53 e_r_53 => ?_)
          refine lv_if_ne (tgt := 61) hx hb dX1_readInto_56 (by decide) (fun c_56 => ?_) (fun c_56 => ?_)
          · refine lv_aload_n hx hb dX1_readInto_61 rfl (lv_at hl 4 rfl) ?_
            refine lv_iload_n hx hb dX1_readInto_62 rfl (lv_at hl 0 rfl) ?_
            have hPc := hP.sub (ws' := lt_Tx yC G len sg) [0, 1] rfl
            refine lt_cR (va_runV (As := [.int ((v2 + 1) + 1)]) (rest := []) ⟨hx, hb, hml, hown, hts⟩ (c_X1_digit l D yI yC yO G len sg ((v2 + 1) + 1) ) (cwV 1 hts gX1_readInto_X1_digit rfl rfl rfl (by decide +kernel) ⟨Nat.le_of_ble_eq_true rfl, Nat.le_of_ble_eq_true rfl⟩) (lt_pV hK0 hPc (va_recv hK hPc (ci := 1) (q0 := 0) rfl rfl)) rfl rfl hl.1 rfl (lv_room (Nat.le_of_ble_eq_true rfl)) dX1_readInto_63 ⟨Nat.zero_le _, Nat.zero_le _⟩) (fun r_63 e_r_63 => ?_)
            refine lv_istore (lv' := [(5, .int r_63), (2, .int ((v2 + 1) + 1)), (4, .int r_27), (3, .int v3), (0, .ref (G 0)), (1, .ref (B' 1))]) hx hb dX1_readInto_66 hl (by decide) rfl (fun ls hl => ?_)
            refine lv_iinc (v := (((v2 + 1) + 1) + 1)) (lv' := [(2, .int (((v2 + 1) + 1) + 1)), (5, .int r_63), (4, .int r_27), (3, .int v3), (0, .ref (G 0)), (1, .ref (B' 1))]) hx hb dX1_readInto_68 hl (k := 1) rfl (rfl) (by decide) rfl (fun ls hl => ?_)
            refine lv_aload_n hx hb dX1_readInto_71 rfl (lv_at hl 5 rfl) ?_
            refine lv_iload hx hb dX1_readInto_72 (lv_at hl 2 rfl) ?_
            refine lv_iload hx hb dX1_readInto_74 (lv_at hl 1 rfl) ?_
            have hPc := hP.sub (ws' := lt_Bk yI B' L'0 w'0 st'0 q'0) [2, 3, 4, 5, 6, 7, 8] rfl
            have hDc := hD.sub (ws' := lt_Bk yI B' L'0 w'0 st'0 q'0) [2, 3, 4, 5, 6, 7, 8] (by decide) rfl
            refine lt_cWv (wc := lt_Bk yI B' L'0 w'0 st'0 q'0) (wr := [(G 0, .inr (1, [.ref (G 1), .int len])), (G 1, .inl (yC, 60, .inl sg))]) (va_runV (As := [.int r_27, .int r_63]) (rest := []) ⟨hx, hb, hml, hown, hts⟩ (c_X0_addLeaf l D yI yC yO B' L'0 w'0 st'0 q'0 r_27 r_63 _ ) (cwV 2 hts gX1_readInto_X0_addLeaf rfl rfl rfl (by decide +kernel) ⟨Nat.le_of_ble_eq_true rfl, Nat.le_of_ble_eq_true rfl⟩) (lt_qV hK0 hPc hDc (va_recv hK hPc (ci := 0) (q0 := 0) rfl rfl)) rfl rfl hl.1 rfl (lv_room (Nat.le_of_ble_eq_true rfl)) dX1_readInto_76 ⟨Nat.zero_le _, Nat.zero_le _⟩) hP hD hS hA [2, 3, 4, 5, 6, 7, 8] [0, 1] rfl rfl (by decide) (by decide) (fun x_76 e_x_76 H locs hP hD hS => ?_)
            have hP := hP.sub (ws' := lt_Tx yC G len sg ++ lt_Bk yI B' x_76.1 x_76.2.1 x_76.2.2.1 x_76.2.2.2) [0, 1, 2, 3, 4, 5, 6, 7, 8] rfl
            have hD := hD.sub (ws' := lt_Tx yC G len sg ++ lt_Bk yI B' x_76.1 x_76.2.1 x_76.2.2.1 x_76.2.2.2) [0, 1, 2, 3, 4, 5, 6, 7, 8] (by decide) rfl
            refine lv_iload_n hx hb dX1_readInto_79 rfl (lv_at hl 0 rfl) ?_
            refine lv_aload_n hx hb dX1_readInto_80 rfl (lv_at hl 4 rfl) ?_
            refine lv_iload_n hx hb dX1_readInto_81 rfl (lv_at hl 0 rfl) ?_
            refine lv_aload_n hx hb dX1_readInto_82 rfl (lv_at hl 5 rfl) ?_
            have hPc := hP.sub (ws' := lt_Tx yC G len sg ++ lt_Bk yI B' x_76.1 x_76.2.1 x_76.2.2.1 x_76.2.2.2) [0, 1, 2, 3, 4, 5, 6, 7, 8] rfl
            have hDc := hD.sub (ws' := lt_Tx yC G len sg ++ lt_Bk yI B' x_76.1 x_76.2.1 x_76.2.2.1 x_76.2.2.2) [0, 1, 2, 3, 4, 5, 6, 7, 8] (by decide) rfl
            refine lt_cWi (wc := lt_Tx yC G len sg ++ lt_Bk yI B' x_76.1 x_76.2.1 x_76.2.2.1 x_76.2.2.2) (wr := []) (va_runV (As := [.int (((v2 + 1) + 1) + 1), .ref (B' 1)]) (rest := [.int (((v2 + 1) + 1) + 1)]) ⟨hx, hb, hml, hown, hts⟩ (c_X1_readMark l D yI yC yO G B' len sg x_76.1 x_76.2.1 x_76.2.2.1 x_76.2.2.2 (((v2 + 1) + 1) + 1) _ ) (cwV 2 hts gX1_readInto_X1_readMark rfl rfl rfl (by decide +kernel) ⟨Nat.le_of_ble_eq_true rfl, Nat.le_of_ble_eq_true rfl⟩) (lt_qV hK0 hPc hDc (va_recv hK hPc (ci := 1) (q0 := 0) rfl rfl)) rfl rfl hl.1 rfl (lv_room (Nat.le_of_ble_eq_true rfl)) dX1_readInto_83 ⟨Nat.zero_le _, Nat.zero_le _⟩) hP hD hS hA [0, 1, 2, 3, 4, 5, 6, 7, 8] [] rfl rfl (by decide) (by decide) (fun x_83 e_x_83 H locs hP hD hS => ?_)
            have hP := hP.sub (ws' := lt_Tx yC G len sg ++ lt_Bk yI B' x_76.1 x_76.2.1 x_76.2.2.1 x_83.2) [0, 1, 2, 3, 4, 5, 6, 7, 8] rfl
            have hD := hD.sub (ws' := lt_Tx yC G len sg ++ lt_Bk yI B' x_76.1 x_76.2.1 x_76.2.2.1 x_83.2) [0, 1, 2, 3, 4, 5, 6, 7, 8] (by decide) rfl
            refine lv_iadd hx hb dX1_readInto_86 ?_
            refine lv_topi (fun v_87 e_v_87 => ?_)
            refine lv_istore_n (lv' := [(2, .int v_87), (5, .int r_63), (4, .int r_27), (3, .int v3), (0, .ref (G 0)), (1, .ref (B' 1))]) hx hb dX1_readInto_87 rfl hl (by decide) rfl (fun ls hl => ?_)
            refine lv_iload_n hx hb dX1_readInto_88 rfl (lv_at hl 0 rfl) ?_
            refine lv_aload_n hx hb dX1_readInto_89 rfl (lv_at hl 4 rfl) ?_
            refine va_get (D := D) (ci := 1) (v := .int len) (C := RX1) (T := TX1) (N := 2) hx hb hts iw_X1_readInto_1 hown hK hP 0 rfl rfl 1 (by decide) (hts (.fieldLink RX1 15 "LeafTurner$BookText" "length" "I") (by decide +kernel)) (fun _ h9 => h9) rfl dX1_readInto_90 ?_
            refine lv_icmp_ne (tgt := 99) hx hb dX1_readInto_93 (by decide) (fun c_93 => ?_) (fun c_93 => ?_)
            · refine lv_aload_n hx hb dX1_readInto_99 rfl (lv_at hl 4 rfl) ?_
              refine lv_iload_n hx hb dX1_readInto_100 rfl (lv_at hl 0 rfl) ?_
              refine lv_bipush (v := 44) hx hb dX1_readInto_101 (by decide) ?_
              have hPc := hP.sub (ws' := lt_Tx yC G len sg) [0, 1] rfl
              refine lt_cR (va_runV (As := [.int v_87, .int 44]) (rest := []) ⟨hx, hb, hml, hown, hts⟩ (c_X1_is l D yI yC yO G len sg v_87 44 ) (cwV 2 hts gX1_readInto_X1_is rfl rfl rfl (by decide +kernel) ⟨Nat.le_of_ble_eq_true rfl, Nat.le_of_ble_eq_true rfl⟩) (lt_pV hK0 hPc (va_recv hK hPc (ci := 1) (q0 := 0) rfl rfl)) rfl rfl hl.1 rfl (lv_room (Nat.le_of_ble_eq_true rfl)) dX1_readInto_103 ⟨Nat.zero_le _, Nat.zero_le _⟩) (fun r_103 e_r_103 => ?_)
              refine lv_if_eq (tgt := 115) hx hb dX1_readInto_106 (by decide) (fun c_106 => ?_) (fun c_106 => ?_)
              · refine lv_iload_n hx hb dX1_readInto_115 rfl (lv_at hl 0 rfl) ?_
                exact W.iret (v := v_87) hx hb hret (fun t ht hW => ⟨⟨v_87, (x_76.1, x_76.2.1, x_76.2.2.1, x_83.2), rfl, (by subst e_r_103 e_v_87 e_x_83 e_x_76 e_r_63 e_r_53 e_r_42 e_r_27 e_r_17; exact (Eq.trans (Eq.symm (Eq.trans (if_neg c_12) (Eq.trans (if_neg c_20) (Eq.trans (if_neg c_45) (Eq.trans (if_neg c_56) (Eq.trans (if_neg c_93) (Eq.trans (if_pos c_106) rfl))))))) hT)), by rw [ht]; exact hP, hD⟩, hS.F ht⟩) hS.2.2 dX1_readInto_116
              · refine lv_iload_n hx hb dX1_readInto_109 rfl (lv_at hl 3 rfl) ?_
                refine lv_bipush (v := 29) hx hb dX1_readInto_110 (by decide) ?_
                refine lv_icmp_ne (tgt := 117) hx hb dX1_readInto_112 (by decide) (fun c_112 => ?_) (fun c_112 => ?_)
                · refine lv_iinc (v := (v_87 + 1)) (lv' := [(2, .int (v_87 + 1)), (5, .int r_63), (4, .int r_27), (3, .int v3), (0, .ref (G 0)), (1, .ref (B' 1))]) hx hb dX1_readInto_117 hl (k := 0) rfl (rfl) (by decide) rfl (fun ls hl => ?_)
                  refine lv_iinc (v := (v3 + 1)) (lv' := [(3, .int (v3 + 1)), (2, .int (v_87 + 1)), (5, .int r_63), (4, .int r_27), (0, .ref (G 0)), (1, .ref (B' 1))]) hx hb dX1_readInto_120 hl (k := 3) rfl (rfl) (by decide) rfl (fun ls hl => ?_)
                  refine lv_goto (tgt := 9) hx hb dX1_readInto_123 (by decide) ?_
                  exact ih ((v_87 + 1), (v3 + 1), x_76.1, x_76.2.1, x_76.2.2.1, x_83.2) _ _ _ ⟨(v_87 + 1), (v3 + 1), x_76.1, x_76.2.1, x_76.2.2.1, x_83.2, rfl, lt_fuS hF (lt_nle c_12), (by subst e_r_103 e_v_87 e_x_83 e_x_76 e_r_63 e_r_53 e_r_42 e_r_27 e_r_17; exact (Eq.trans (Eq.symm (Eq.trans (if_neg c_12) (Eq.trans (if_neg c_20) (Eq.trans (if_neg c_45) (Eq.trans (if_neg c_56) (Eq.trans (if_neg c_93) (Eq.trans (if_neg c_106) (Eq.trans (if_neg c_112) rfl)))))))) hT)), hP, hD, hS, lv_sub hl [0, 1, 4, 5] rfl⟩
                · refine lv_iload_n hx hb dX1_readInto_115 rfl (lv_at hl 0 rfl) ?_
                  exact W.iret (v := v_87) hx hb hret (fun t ht hW => ⟨⟨v_87, (x_76.1, x_76.2.1, x_76.2.2.1, x_83.2), rfl, (by subst e_r_103 e_v_87 e_x_83 e_x_76 e_r_63 e_r_53 e_r_42 e_r_27 e_r_17; exact (Eq.trans (Eq.symm (Eq.trans (if_neg c_12) (Eq.trans (if_neg c_20) (Eq.trans (if_neg c_45) (Eq.trans (if_neg c_56) (Eq.trans (if_neg c_93) (Eq.trans (if_neg c_106) (Eq.trans (if_pos c_112) rfl)))))))) hT)), by rw [ht]; exact hP, hD⟩, hS.F ht⟩) hS.2.2 dX1_readInto_116
            · refine lv_bipush (v := (-5)) hx hb dX1_readInto_96 (by decide) ?_
              exact W.iret (v := (-5)) hx hb hret (fun t ht hW => ⟨⟨(-5), (x_76.1, x_76.2.1, x_76.2.2.1, x_83.2), rfl, (by subst e_v_87 e_x_83 e_x_76 e_r_63 e_r_53 e_r_42 e_r_27 e_r_17; exact (Eq.trans (Eq.symm (Eq.trans (if_neg c_12) (Eq.trans (if_neg c_20) (Eq.trans (if_neg c_45) (Eq.trans (if_neg c_56) (Eq.trans (if_pos c_93) rfl)))))) hT)), by rw [ht]; exact hP, hD⟩, hS.F ht⟩) hS.2.2 dX1_readInto_98
          · refine lv_iload_n hx hb dX1_readInto_59 rfl (lv_at hl 0 rfl) ?_
            exact W.iret (v := ((v2 + 1) + 1)) hx hb hret (fun t ht hW => ⟨⟨((v2 + 1) + 1), (L'0, w'0, st'0, q'0), rfl, (by subst e_r_53 e_r_42 e_r_27 e_r_17; exact (Eq.trans (Eq.symm (Eq.trans (if_neg c_12) (Eq.trans (if_neg c_20) (Eq.trans (if_neg c_45) (Eq.trans (if_pos c_56) rfl))))) hT)), by rw [ht]; exact hP, hD⟩, hS.F ht⟩) hS.2.2 dX1_readInto_60
      · refine lv_iload_n hx hb dX1_readInto_23 rfl (lv_at hl 1 rfl) ?_
        exact W.iret (v := v2) hx hb hret (fun t ht hW => ⟨⟨v2, (L'0, w'0, st'0, q'0), rfl, (by subst e_r_17; exact (Eq.trans (Eq.symm (Eq.trans (if_neg c_12) (Eq.trans (if_pos c_20) rfl))) hT)), by rw [ht]; exact hP, hD⟩, hS.F ht⟩) hS.2.2 dX1_readInto_24
