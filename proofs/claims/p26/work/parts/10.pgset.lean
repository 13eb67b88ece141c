def X4_guessOf (pi : Int32) (pa : Int32) (gs : Nat → Int32) (ch : Nat → Int32) (i' : Nat → Int32) (a' : Nat → Nat → Int32) (p0 : Int32) (p1 : Int32) : Int32 :=
  let r_8 := X3_at 80 (a' 4) p0
  if r_8 = (-5) then
    if p1 = (-5) then
      (-5)
    else
      let r_72 := X0_hasPage (i' 0) (a' 0) (a' 1) (a' 2) (p1 + 1)
      if r_72 = 0 then
        (-5)
      else
        (p1 + 1)
  else
    let r_25 := X5_isGood (i' 2) (a' 3) (a' 4) (a' 5) (a' 6) p0
    if r_25 = 0 then
      if p1 = (-5) then
        (-5)
      else
        let r_72 := X0_hasPage (i' 0) (a' 0) (a' 1) (a' 2) (p1 + 1)
        if r_72 = 0 then
          (-5)
        else
          (p1 + 1)
    else
      let r_38 := X3_at 3 (a' 7) 2
      let r_50 := X0_hasPage (i' 0) (a' 0) (a' 1) (a' 2) (r_8 - r_38)
      if r_50 = 0 then
        if p1 = (-5) then
          (-5)
        else
          let r_72 := X0_hasPage (i' 0) (a' 0) (a' 1) (a' 2) (p1 + 1)
          if r_72 = 0 then
            (-5)
          else
            (p1 + 1)
      else
        (r_8 - r_38)
theorem iw_X4_guessOf_6 : ∀ w ∈ wsX60, w ∈ wsX4_guessOf := by decide +kernel
theorem iw_X4_guessOf_5 : ∀ w ∈ wsX50, w ∈ wsX4_guessOf := by decide +kernel
set_option maxHeartbeats 4000000 in
set_option maxRecDepth 100000 in
theorem c_X4_guessOf (l : Launch) (D : va_G) (yI yC yO : ClassId) (G : Nat → Nat) (B' : Nat → Nat) (pi : Int32) (pa : Int32) (gs : Nat → Int32) (ch : Nat → Int32) (i' : Nat → Int32) (a' : Nat → Nat → Int32) (p0 : Int32) (p1 : Int32) : Met l yX4_guessOf wsX4_guessOf ({ frames := 3, cells := 0, slots := 0, locals := 90 }) (va_Pc [.ref (G 0), .int p0, .int p1, .ref (B' 0)] (lt_R D yI yC yO (lt_Pg yI G pi pa gs ch ++ lt_St yI B' i' a'))) (lt_Si (X4_guessOf pi pa gs ch i' a' p0 p1)) 0 0 (fun _ => False) := by
  refine Met.ofW (cc := cX4_guessOf) (maxL := 6) (ret := (some .int)) (by decide) rfl ?_
  intro p e s m args below meth c s₁ B0 hml hv
  obtain ⟨rfl, hP, hK0⟩ := hv
  have hx := B0.exec
  have hb := B0.bytes
  have hret := B0.returns
  have hts := atoms_spec (ws := wsX4_guessOf) B0.pre
  have hown : s.vm.findClass RX4 = some m.cls := findClass_of_methodNamed B0.named
  have hlocks := B0.notSynchronized
  have hK := hK0.1
  have hN := hK0.2
  have hP : va_P D vwCl (lt_Pg yI G pi pa gs ch ++ lt_St yI B' i' a') s.heap := hP
  have hl := lv_entry ([.ref (G 0), .int p0, .int p1, .ref (B' 0)]) (n := 6) (Nat.le_of_ble_eq_true rfl)
  rw [lg_entry_eq]
  generalize (lg_sl ([.ref (G 0), .int p0, .int p1, .ref (B' 0)]) ++ List.replicate (6 - (lg_sl ([.ref (G 0), .int p0, .int p1, .ref (B' 0)])).length) Slot.unset).toArray = ls at hl ⊢
  have hl : lv_has ls 6 [(0, .ref (G 0)), (1, .int p0), (2, .int p1), (3, .ref (B' 0))] := hl
  refine lv_aload_n hx hb dX4_guessOf_0 rfl (lv_at hl 3 rfl) ?_
  refine va_getN (D := D) (ci := 6) (v := .ref (B' 8)) (C := RX6) (T := TX6) (N := 10) hx hb hts iw_X4_guessOf_6 hown hK hP 5 rfl rfl 1 (by decide) (va_Nw.use rfl (hN _ lt_nw20)) (fun _ h9 => h9) rfl dX4_guessOf_1 ?_
  refine va_getN (D := D) (ci := 5) (v := .ref (B' 11)) (C := RX5) (T := TX5) (N := 5) hx hb hts iw_X4_guessOf_5 hown hK hP 13 rfl rfl 1 (by decide) (va_Nw.use rfl (hN _ lt_nw11)) (fun _ h9 => h9) rfl dX4_guessOf_4 ?_
  refine lv_iload_n hx hb dX4_guessOf_7 rfl (lv_at hl 1 rfl) ?_
  have hPc := hP.sub (ws' := lt_N2 yI (B' 11) (B' 12) 80 (a' 4)) [16, 17] rfl
  refine lt_cR (va_runV (As := [.int p0]) (rest := []) ⟨hx, hb, hml, hown, hts⟩ (c_X3_at l D yI yC yO (B' 11) (B' 12) 80 (a' 4) p0 (by decide)) (cwV 1 hts gX4_guessOf_X3_at rfl rfl rfl (by decide +kernel) ⟨Nat.le_of_ble_eq_true rfl, Nat.le_of_ble_eq_true rfl⟩) (lt_pV hK0 hPc (va_recv hK hPc (ci := 3) (q0 := 0) rfl rfl)) rfl rfl hl.1 rfl (lv_room (Nat.le_of_ble_eq_true rfl)) dX4_guessOf_8 ⟨Nat.zero_le _, Nat.zero_le _⟩) (fun r_8 e_r_8 => ?_)
  refine lv_istore (lv' := [(4, .int r_8), (0, .ref (G 0)), (1, .int p0), (2, .int p1), (3, .ref (B' 0))]) hx hb dX4_guessOf_11 hl (by decide) rfl (fun ls hl => ?_)
  refine lv_iload hx hb dX4_guessOf_13 (lv_at hl 0 rfl) ?_
  refine lv_bipush (v := (-5)) hx hb dX4_guessOf_15 (by decide) ?_
  refine lv_icmp_eq (tgt := 59) hx hb dX4_guessOf_17 (by decide) (fun c_17 => ?_) (fun c_17 => ?_)
  · refine lv_iload_n hx hb dX4_guessOf_59 rfl (lv_at hl 3 rfl) ?_
    refine lv_bipush (v := (-5)) hx hb dX4_guessOf_60 (by decide) ?_
    refine lv_icmp_eq (tgt := 82) hx hb dX4_guessOf_62 (by decide) (fun c_62 => ?_) (fun c_62 => ?_)
    · refine lv_bipush (v := (-5)) hx hb dX4_guessOf_82 (by decide) ?_
      exact W.iret (v := (-5)) hx hb hret (fun t ht hW => ⟨(-5), rfl, (by subst e_r_8; exact (Eq.symm (Eq.trans (if_pos c_17) (Eq.trans (if_pos c_62) rfl)))), ht⟩) (fun _ h => absurd h List.not_mem_nil) dX4_guessOf_84
    · refine lv_aload_n hx hb dX4_guessOf_65 rfl (lv_at hl 4 rfl) ?_
      refine va_getN (D := D) (ci := 6) (v := .ref (B' 1)) (C := RX6) (T := TX6) (N := 10) hx hb hts iw_X4_guessOf_6 hown hK hP 5 rfl rfl 0 (by decide) (va_Nw.use rfl (hN _ lt_nw19)) (fun _ h9 => h9) rfl dX4_guessOf_66 ?_
      refine lv_iload_n hx hb dX4_guessOf_69 rfl (lv_at hl 3 rfl) ?_
      refine lv_iconst (v := 1) hx hb dX4_guessOf_70 (by decide) ?_
      refine lv_iadd hx hb dX4_guessOf_71 ?_
      have hPc := hP.sub (ws' := lt_Bk yI B' (i' 0) (a' 0) (a' 1) (a' 2)) [6, 7, 8, 9, 10, 11, 12] rfl
      refine lt_cR (va_runV (As := [.int (p1 + 1)]) (rest := []) ⟨hx, hb, hml, hown, hts⟩ (c_X0_hasPage l D yI yC yO B' (i' 0) (a' 0) (a' 1) (a' 2) (p1 + 1) ) (cwV 1 hts gX4_guessOf_X0_hasPage rfl rfl rfl (by decide +kernel) ⟨Nat.le_of_ble_eq_true rfl, Nat.le_of_ble_eq_true rfl⟩) (lt_pV hK0 hPc (va_recv hK hPc (ci := 0) (q0 := 0) rfl rfl)) rfl rfl hl.1 rfl (lv_room (Nat.le_of_ble_eq_true rfl)) dX4_guessOf_72 ⟨Nat.zero_le _, Nat.zero_le _⟩) (fun r_72 e_r_72 => ?_)
      refine lv_if_eq (tgt := 82) hx hb dX4_guessOf_75 (by decide) (fun c_75 => ?_) (fun c_75 => ?_)
      · refine lv_bipush (v := (-5)) hx hb dX4_guessOf_82 (by decide) ?_
        exact W.iret (v := (-5)) hx hb hret (fun t ht hW => ⟨(-5), rfl, (by subst e_r_72 e_r_8; exact (Eq.symm (Eq.trans (if_pos c_17) (Eq.trans (if_neg c_62) (Eq.trans (if_pos c_75) rfl))))), ht⟩) (fun _ h => absurd h List.not_mem_nil) dX4_guessOf_84
      · refine lv_iload_n hx hb dX4_guessOf_78 rfl (lv_at hl 3 rfl) ?_
        refine lv_iconst (v := 1) hx hb dX4_guessOf_79 (by decide) ?_
        refine lv_iadd hx hb dX4_guessOf_80 ?_
        exact W.iret (v := (p1 + 1)) hx hb hret (fun t ht hW => ⟨(p1 + 1), rfl, (by subst e_r_72 e_r_8; exact (Eq.symm (Eq.trans (if_pos c_17) (Eq.trans (if_neg c_62) (Eq.trans (if_neg c_75) rfl))))), ht⟩) (fun _ h => absurd h List.not_mem_nil) dX4_guessOf_81
  · refine lv_aload_n hx hb dX4_guessOf_20 rfl (lv_at hl 4 rfl) ?_
    refine va_getN (D := D) (ci := 6) (v := .ref (B' 8)) (C := RX6) (T := TX6) (N := 10) hx hb hts iw_X4_guessOf_6 hown hK hP 5 rfl rfl 1 (by decide) (va_Nw.use rfl (hN _ lt_nw20)) (fun _ h9 => h9) rfl dX4_guessOf_21 ?_
    refine lv_iload_n hx hb dX4_guessOf_24 rfl (lv_at hl 2 rfl) ?_
    have hPc := hP.sub (ws' := lt_Ps yI B' (i' 2) (a' 3) (a' 4) (a' 5) (a' 6)) [13, 14, 15, 16, 17, 18, 19, 20, 21] rfl
    refine lt_cR (va_runV (As := [.int p0]) (rest := []) ⟨hx, hb, hml, hown, hts⟩ (c_X5_isGood l D yI yC yO B' (i' 2) (a' 3) (a' 4) (a' 5) (a' 6) p0 ) (cwV 1 hts gX4_guessOf_X5_isGood rfl rfl rfl (by decide +kernel) ⟨Nat.le_of_ble_eq_true rfl, Nat.le_of_ble_eq_true rfl⟩) (lt_pV hK0 hPc (va_recv hK hPc (ci := 5) (q0 := 0) rfl rfl)) rfl rfl hl.1 rfl (lv_room (Nat.le_of_ble_eq_true rfl)) dX4_guessOf_25 ⟨Nat.zero_le _, Nat.zero_le _⟩) (fun r_25 e_r_25 => ?_)
    refine lv_if_eq (tgt := 59) hx hb dX4_guessOf_28 (by decide) (fun c_28 => ?_) (fun c_28 => ?_)
    · refine lv_iload_n hx hb dX4_guessOf_59 rfl (lv_at hl 3 rfl) ?_
      refine lv_bipush (v := (-5)) hx hb dX4_guessOf_60 (by decide) ?_
      refine lv_icmp_eq (tgt := 82) hx hb dX4_guessOf_62 (by decide) (fun c_62 => ?_) (fun c_62 => ?_)
      · refine lv_bipush (v := (-5)) hx hb dX4_guessOf_82 (by decide) ?_
        exact W.iret (v := (-5)) hx hb hret (fun t ht hW => ⟨(-5), rfl, (by subst e_r_25 e_r_8; exact (Eq.symm (Eq.trans (if_neg c_17) (Eq.trans (if_pos c_28) (Eq.trans (if_pos c_62) rfl))))), ht⟩) (fun _ h => absurd h List.not_mem_nil) dX4_guessOf_84
      · refine lv_aload_n hx hb dX4_guessOf_65 rfl (lv_at hl 4 rfl) ?_
        refine va_getN (D := D) (ci := 6) (v := .ref (B' 1)) (C := RX6) (T := TX6) (N := 10) hx hb hts iw_X4_guessOf_6 hown hK hP 5 rfl rfl 0 (by decide) (va_Nw.use rfl (hN _ lt_nw19)) (fun _ h9 => h9) rfl dX4_guessOf_66 ?_
        refine lv_iload_n hx hb dX4_guessOf_69 rfl (lv_at hl 3 rfl) ?_
        refine lv_iconst (v := 1) hx hb dX4_guessOf_70 (by decide) ?_
        refine lv_iadd hx hb dX4_guessOf_71 ?_
        have hPc := hP.sub (ws' := lt_Bk yI B' (i' 0) (a' 0) (a' 1) (a' 2)) [6, 7, 8, 9, 10, 11, 12] rfl
        refine lt_cR (va_runV (As := [.int (p1 + 1)]) (rest := []) ⟨hx, hb, hml, hown, hts⟩ (c_X0_hasPage l D yI yC yO B' (i' 0) (a' 0) (a' 1) (a' 2) (p1 + 1) ) (cwV 1 hts gX4_guessOf_X0_hasPage rfl rfl rfl (by decide +kernel) ⟨Nat.le_of_ble_eq_true rfl, Nat.le_of_ble_eq_true rfl⟩) (lt_pV hK0 hPc (va_recv hK hPc (ci := 0) (q0 := 0) rfl rfl)) rfl rfl hl.1 rfl (lv_room (Nat.le_of_ble_eq_true rfl)) dX4_guessOf_72 ⟨Nat.zero_le _, Nat.zero_le _⟩) (fun r_72 e_r_72 => ?_)
        refine lv_if_eq (tgt := 82) hx hb dX4_guessOf_75 (by decide) (fun c_75 => ?_) (fun c_75 => ?_)
        · refine lv_bipush (v := (-5)) hx hb dX4_guessOf_82 (by decide) ?_
          exact W.iret (v := (-5)) hx hb hret (fun t ht hW => ⟨(-5), rfl, (by subst e_r_72 e_r_25 e_r_8; exact (Eq.symm (Eq.trans (if_neg c_17) (Eq.trans (if_pos c_28) (Eq.trans (if_neg c_62) (Eq.trans (if_pos c_75) rfl)))))), ht⟩) (fun _ h => absurd h List.not_mem_nil) dX4_guessOf_84
        · refine lv_iload_n hx hb dX4_guessOf_78 rfl (lv_at hl 3 rfl) ?_
          refine lv_iconst (v := 1) hx hb dX4_guessOf_79 (by decide) ?_
          refine lv_iadd hx hb dX4_guessOf_80 ?_
          exact W.iret (v := (p1 + 1)) hx hb hret (fun t ht hW => ⟨(p1 + 1), rfl, (by subst e_r_72 e_r_25 e_r_8; exact (Eq.symm (Eq.trans (if_neg c_17) (Eq.trans (if_pos c_28) (Eq.trans (if_neg c_62) (Eq.trans (if_neg c_75) rfl)))))), ht⟩) (fun _ h => absurd h List.not_mem_nil) dX4_guessOf_81
    · refine lv_iload hx hb dX4_guessOf_31 (lv_at hl 0 rfl) ?_
      refine lv_aload_n hx hb dX4_guessOf_33 rfl (lv_at hl 4 rfl) ?_
      refine va_getN (D := D) (ci := 6) (v := .ref (B' 17)) (C := RX6) (T := TX6) (N := 10) hx hb hts iw_X4_guessOf_6 hown hK hP 5 rfl rfl 2 (by decide) (va_Nw.use rfl (hN _ lt_nw22)) (fun _ h9 => h9) rfl dX4_guessOf_34 ?_
      refine lv_iconst (v := 2) hx hb dX4_guessOf_37 (by decide) ?_
      have hPc := hP.sub (ws' := lt_N2 yI (B' 17) (B' 18) 3 (a' 7)) [22, 23] rfl
      refine lt_cR (va_runV (As := [.int 2]) (rest := [.int r_8]) ⟨hx, hb, hml, hown, hts⟩ (c_X3_at l D yI yC yO (B' 17) (B' 18) 3 (a' 7) 2 (by decide)) (cwV 1 hts gX4_guessOf_X3_at rfl rfl rfl (by decide +kernel) ⟨Nat.le_of_ble_eq_true rfl, Nat.le_of_ble_eq_true rfl⟩) (lt_pV hK0 hPc (va_recv hK hPc (ci := 3) (q0 := 0) rfl rfl)) rfl rfl hl.1 rfl (lv_room (Nat.le_of_ble_eq_true rfl)) dX4_guessOf_38 ⟨Nat.zero_le _, Nat.zero_le _⟩) (fun r_38 e_r_38 => ?_)
      refine lv_isub hx hb dX4_guessOf_41 ?_
      refine lv_istore (lv' := [(5, .int (r_8 - r_38)), (4, .int r_8), (0, .ref (G 0)), (1, .int p0), (2, .int p1), (3, .ref (B' 0))]) hx hb dX4_guessOf_42 hl (by decide) rfl (fun ls hl => ?_)
      refine lv_aload_n hx hb dX4_guessOf_44 rfl (lv_at hl 5 rfl) ?_
      refine va_getN (D := D) (ci := 6) (v := .ref (B' 1)) (C := RX6) (T := TX6) (N := 10) hx hb hts iw_X4_guessOf_6 hown hK hP 5 rfl rfl 0 (by decide) (va_Nw.use rfl (hN _ lt_nw19)) (fun _ h9 => h9) rfl dX4_guessOf_45 ?_
      refine lv_iload hx hb dX4_guessOf_48 (lv_at hl 0 rfl) ?_
      have hPc := hP.sub (ws' := lt_Bk yI B' (i' 0) (a' 0) (a' 1) (a' 2)) [6, 7, 8, 9, 10, 11, 12] rfl
      refine lt_cR (va_runV (As := [.int (r_8 - r_38)]) (rest := []) ⟨hx, hb, hml, hown, hts⟩ (c_X0_hasPage l D yI yC yO B' (i' 0) (a' 0) (a' 1) (a' 2) (r_8 - r_38) ) (cwV 1 hts gX4_guessOf_X0_hasPage rfl rfl rfl (by decide +kernel) ⟨Nat.le_of_ble_eq_true rfl, Nat.le_of_ble_eq_true rfl⟩) (lt_pV hK0 hPc (va_recv hK hPc (ci := 0) (q0 := 0) rfl rfl)) rfl rfl hl.1 rfl (lv_room (Nat.le_of_ble_eq_true rfl)) dX4_guessOf_50 ⟨Nat.zero_le _, Nat.zero_le _⟩) (fun r_50 e_r_50 => ?_)
      refine lv_if_eq (tgt := 59) hx hb dX4_guessOf_53 (by decide) (fun c_53 => ?_) (fun c_53 => ?_)
      · refine lv_iload_n hx hb dX4_guessOf_59 rfl (lv_at hl 4 rfl) ?_
        refine lv_bipush (v := (-5)) hx hb dX4_guessOf_60 (by decide) ?_
        refine lv_icmp_eq (tgt := 82) hx hb dX4_guessOf_62 (by decide) (fun c_62 => ?_) (fun c_62 => ?_)
        · refine lv_bipush (v := (-5)) hx hb dX4_guessOf_82 (by decide) ?_
          exact W.iret (v := (-5)) hx hb hret (fun t ht hW => ⟨(-5), rfl, (by subst e_r_50 e_r_38 e_r_25 e_r_8; exact (Eq.symm (Eq.trans (if_neg c_17) (Eq.trans (if_neg c_28) (Eq.trans (if_pos c_53) (Eq.trans (if_pos c_62) rfl)))))), ht⟩) (fun _ h => absurd h List.not_mem_nil) dX4_guessOf_84
        · refine lv_aload_n hx hb dX4_guessOf_65 rfl (lv_at hl 5 rfl) ?_
          refine va_getN (D := D) (ci := 6) (v := .ref (B' 1)) (C := RX6) (T := TX6) (N := 10) hx hb hts iw_X4_guessOf_6 hown hK hP 5 rfl rfl 0 (by decide) (va_Nw.use rfl (hN _ lt_nw19)) (fun _ h9 => h9) rfl dX4_guessOf_66 ?_
          refine lv_iload_n hx hb dX4_guessOf_69 rfl (lv_at hl 4 rfl) ?_
          refine lv_iconst (v := 1) hx hb dX4_guessOf_70 (by decide) ?_
          refine lv_iadd hx hb dX4_guessOf_71 ?_
          have hPc := hP.sub (ws' := lt_Bk yI B' (i' 0) (a' 0) (a' 1) (a' 2)) [6, 7, 8, 9, 10, 11, 12] rfl
          refine lt_cR (va_runV (As := [.int (p1 + 1)]) (rest := []) ⟨hx, hb, hml, hown, hts⟩ (c_X0_hasPage l D yI yC yO B' (i' 0) (a' 0) (a' 1) (a' 2) (p1 + 1) ) (cwV 1 hts gX4_guessOf_X0_hasPage rfl rfl rfl (by decide +kernel) ⟨Nat.le_of_ble_eq_true rfl, Nat.le_of_ble_eq_true rfl⟩) (lt_pV hK0 hPc (va_recv hK hPc (ci := 0) (q0 := 0) rfl rfl)) rfl rfl hl.1 rfl (lv_room (Nat.le_of_ble_eq_true rfl)) dX4_guessOf_72 ⟨Nat.zero_le _, Nat.zero_le _⟩) (fun r_72 e_r_72 => ?_)
          refine lv_if_eq (tgt := 82) hx hb dX4_guessOf_75 (by decide) (fun c_75 => ?_) (fun c_75 => ?_)
          · refine lv_bipush (v := (-5)) hx hb dX4_guessOf_82 (by decide) ?_
            exact W.iret (v := (-5)) hx hb hret (fun t ht hW => ⟨(-5), rfl, (by subst e_r_72 e_r_50 e_r_38 e_r_25 e_r_8; exact (Eq.symm (Eq.trans (if_neg c_17) (Eq.trans (if_neg c_28) (Eq.trans (if_pos c_53) (Eq.trans (if_neg c_62) (Eq.trans (if_pos c_75) rfl))))))), ht⟩) (fun _ h => absurd h List.not_mem_nil) dX4_guessOf_84
          · refine lv_iload_n hx hb dX4_guessOf_78 rfl (lv_at hl 4 rfl) ?_
            refine lv_iconst (v := 1) hx hb dX4_guessOf_79 (by decide) ?_
            refine lv_iadd hx hb dX4_guessOf_80 ?_
            exact W.iret (v := (p1 + 1)) hx hb hret (fun t ht hW => ⟨(p1 + 1), rfl, (by subst e_r_72 e_r_50 e_r_38 e_r_25 e_r_8; exact (Eq.symm (Eq.trans (if_neg c_17) (Eq.trans (if_neg c_28) (Eq.trans (if_pos c_53) (Eq.trans (if_neg c_62) (Eq.trans (if_neg c_75) rfl))))))), ht⟩) (fun _ h => absurd h List.not_mem_nil) dX4_guessOf_81
      · refine lv_iload hx hb dX4_guessOf_56 (lv_at hl 0 rfl) ?_
        exact W.iret (v := (r_8 - r_38)) hx hb hret (fun t ht hW => ⟨(r_8 - r_38), rfl, (by subst e_r_50 e_r_38 e_r_25 e_r_8; exact (Eq.symm (Eq.trans (if_neg c_17) (Eq.trans (if_neg c_28) (Eq.trans (if_neg c_53) rfl))))), ht⟩) (fun _ h => absurd h List.not_mem_nil) dX4_guessOf_58

def X4_choose (pi : Int32) (pa : Int32) (gs : Nat → Int32) (ch : Nat → Int32) (z' : Int32) (pg' : Nat → Int32) (nu' : Nat → Int32) (gu' : Nat → Int32) (pr' : Nat → Int32) (p0 : Int32) (p1 : Int32) : (Nat → Int32) :=
  let r_5 := X3_at 60 ch p1
  if r_5 = (-5) then
    let x_40 := X3_put 60 ch p1 p0
    (x_40)
  else
    let r_20 := X5_isGood z' pg' nu' gu' pr' r_5
    if r_20 = 0 then
      let r_28 := X5_isGood z' pg' nu' gu' pr' p0
      if r_28 = 0 then
        (ch)
      else
        let x_40 := X3_put 60 ch p1 p0
        (x_40)
    else
      (ch)
theorem iw_X4_choose_4 : ∀ w ∈ wsX40, w ∈ wsX4_choose := by decide +kernel
set_option maxHeartbeats 4000000 in
set_option maxRecDepth 100000 in
theorem c_X4_choose (l : Launch) (D : va_G) (yI yC yO : ClassId) (G : Nat → Nat) (B' : Nat → Nat) (pi : Int32) (pa : Int32) (gs : Nat → Int32) (ch : Nat → Int32) (z' : Int32) (pg' : Nat → Int32) (nu' : Nat → Int32) (gu' : Nat → Int32) (pr' : Nat → Int32) (p0 : Int32) (p1 : Int32) (sz : Nat) : Met l yX4_choose wsX4_choose ({ frames := 3, cells := 0, slots := 0, locals := 90 }) (va_Pc [.ref (G 0), .int p0, .int p1, .ref (B' 8)] (lt_M D yI yC yO (lt_Pg yI G pi pa gs ch ++ lt_Ps yI B' z' pg' nu' gu' pr') sz)) (lt_Qv D (X4_choose pi pa gs ch z' pg' nu' gu' pr' p0 p1) (fun u => lt_Pg yI G pi pa gs u ++ lt_Ps yI B' z' pg' nu' gu' pr') (va_A (lt_Pg yI G pi pa gs ch ++ lt_Ps yI B' z' pg' nu' gu' pr') sz)) 0 0 (va_A (lt_Pg yI G pi pa gs ch ++ lt_Ps yI B' z' pg' nu' gu' pr') sz) := by
  refine Met.ofW (cc := cX4_choose) (maxL := 5) (ret := none) (by decide) rfl ?_
  intro p e s m args below meth c s₁ B0 hml hv
  obtain ⟨rfl, hsz, hP, hK0, hD0⟩ := hv
  have hx := B0.exec
  have hb := B0.bytes
  have hret := B0.returns
  have hts := atoms_spec (ws := wsX4_choose) B0.pre
  have hown : s.vm.findClass RX4 = some m.cls := findClass_of_methodNamed B0.named
  have hlocks := B0.notSynchronized
  have hK := hK0.1
  have hN := hK0.2
  subst hsz
  have hD := hD0.self (sz := s.heap.size)
  generalize hAe : va_A (lt_Pg yI G pi pa gs ch ++ lt_Ps yI B' z' pg' nu' gu' pr') s.heap.size = A at hD ⊢
  have hA : ∀ q : Nat, s.heap.size ≤ q → A q := fun q h => by rw [← hAe]; exact Or.inr h
  have hS : va_S A s.heap s.heap [] := va_S.rf
  have hP : va_P D vwCl (lt_Pg yI G pi pa gs ch ++ lt_Ps yI B' z' pg' nu' gu' pr') s.heap := hP
  have hD : va_D A (lt_Pg yI G pi pa gs ch ++ lt_Ps yI B' z' pg' nu' gu' pr') := hD
  have hl := lv_entry ([.ref (G 0), .int p0, .int p1, .ref (B' 8)]) (n := 5) (Nat.le_of_ble_eq_true rfl)
  rw [lg_entry_eq]
  generalize (lg_sl ([.ref (G 0), .int p0, .int p1, .ref (B' 8)]) ++ List.replicate (5 - (lg_sl ([.ref (G 0), .int p0, .int p1, .ref (B' 8)])).length) Slot.unset).toArray = ls at hl ⊢
  have hl : lv_has ls 5 [(0, .ref (G 0)), (1, .int p0), (2, .int p1), (3, .ref (B' 8))] := hl
  refine lv_aload_n hx hb dX4_choose_0 rfl (lv_at hl 0 rfl) ?_
  refine va_get (D := D) (ci := 4) (v := .ref (G 3)) (C := RX4) (T := TX4) (N := 4) hx hb hts iw_X4_choose_4 hown hK hP 0 rfl rfl 1 (by decide) (hts (.fieldLink RX4 20 "LeafTurner$PageSet" "chosen" "LLeafTurner$Numbers;") (by decide +kernel)) (fun _ h9 => h9) rfl dX4_choose_1 ?_
  refine lv_iload_n hx hb dX4_choose_4 rfl (lv_at hl 2 rfl) ?_
  have hPc := hP.sub (ws' := lt_N2 yI (G 3) (G 4) 60 ch) [3, 4] rfl
  refine lt_cR (va_runV (As := [.int p1]) (rest := []) ⟨hx, hb, hml, hown, hts⟩ (c_X3_at l D yI yC yO (G 3) (G 4) 60 ch p1 (by decide)) (cwV 1 hts gX4_choose_X3_at rfl rfl rfl (by decide +kernel) ⟨Nat.le_of_ble_eq_true rfl, Nat.le_of_ble_eq_true rfl⟩) (lt_pV hK0 hPc (va_recv hK hPc (ci := 3) (q0 := 0) rfl rfl)) rfl rfl hl.1 rfl (lv_room (Nat.le_of_ble_eq_true rfl)) dX4_choose_5 ⟨Nat.zero_le _, Nat.zero_le _⟩) (fun r_5 e_r_5 => ?_)
  refine lv_istore (lv' := [(4, .int r_5), (0, .ref (G 0)), (1, .int p0), (2, .int p1), (3, .ref (B' 8))]) hx hb dX4_choose_8 hl (by decide) rfl (fun ls hl => ?_)
  refine lv_iload hx hb dX4_choose_10 (lv_at hl 0 rfl) ?_
  refine lv_bipush (v := (-5)) hx hb dX4_choose_12 (by decide) ?_
  refine lv_icmp_eq (tgt := 34) hx hb dX4_choose_14 (by decide) (fun c_14 => ?_) (fun c_14 => ?_)
  · refine lv_aload_n hx hb dX4_choose_34 rfl (lv_at hl 1 rfl) ?_
    refine va_get (D := D) (ci := 4) (v := .ref (G 3)) (C := RX4) (T := TX4) (N := 4) hx hb hts iw_X4_choose_4 hown hK hP 0 rfl rfl 1 (by decide) (hts (.fieldLink RX4 20 "LeafTurner$PageSet" "chosen" "LLeafTurner$Numbers;") (by decide +kernel)) (fun _ h9 => h9) rfl dX4_choose_35 ?_
    refine lv_iload_n hx hb dX4_choose_38 rfl (lv_at hl 3 rfl) ?_
    refine lv_iload_n hx hb dX4_choose_39 rfl (lv_at hl 2 rfl) ?_
    have hPc := hP.sub (ws' := lt_N2 yI (G 3) (G 4) 60 ch) [3, 4] rfl
    have hDc := hD.sub (ws' := lt_N2 yI (G 3) (G 4) 60 ch) [3, 4] (by decide) rfl
    refine lt_cWv (wc := lt_N2 yI (G 3) (G 4) 60 ch) (wr := [(G 0, .inr (4, [.ref (G 1), .ref (G 3), .int pi, .int pa])), (G 1, .inr (3, [.ref (G 2)])), (G 2, .inl (yI, 80, .inl gs)), (B' 8, .inr (5, [.ref (B' 9), .ref (B' 11), .ref (B' 13), .ref (B' 15), .int z'])), (B' 9, .inr (3, [.ref (B' 10)])), (B' 10, .inl (yI, 80, .inl pg')), (B' 11, .inr (3, [.ref (B' 12)])), (B' 12, .inl (yI, 80, .inl nu')), (B' 13, .inr (3, [.ref (B' 14)])), (B' 14, .inl (yI, 80, .inl gu')), (B' 15, .inr (3, [.ref (B' 16)])), (B' 16, .inl (yI, 80, .inl pr'))]) (va_runV (As := [.int p1, .int p0]) (rest := []) ⟨hx, hb, hml, hown, hts⟩ (c_X3_put l D yI yC yO (G 3) (G 4) 60 ch p1 p0 _ (by decide)) (cwV 2 hts gX4_choose_X3_put rfl rfl rfl (by decide +kernel) ⟨Nat.le_of_ble_eq_true rfl, Nat.le_of_ble_eq_true rfl⟩) (lt_qV hK0 hPc hDc (va_recv hK hPc (ci := 3) (q0 := 0) rfl rfl)) rfl rfl hl.1 rfl (lv_room (Nat.le_of_ble_eq_true rfl)) dX4_choose_40 ⟨Nat.zero_le _, Nat.zero_le _⟩) hP hD hS hA [3, 4] [0, 1, 2, 5, 6, 7, 8, 9, 10, 11, 12, 13] rfl rfl (by decide) (by decide) (fun x_40 e_x_40 H locs hP hD hS => ?_)
    have hP := hP.sub (ws' := lt_Pg yI G pi pa gs x_40 ++ lt_Ps yI B' z' pg' nu' gu' pr') [0, 1, 2, 12, 13, 3, 4, 5, 6, 7, 8, 9, 10, 11] rfl
    have hD := hD.sub (ws' := lt_Pg yI G pi pa gs x_40 ++ lt_Ps yI B' z' pg' nu' gu' pr') [0, 1, 2, 12, 13, 3, 4, 5, 6, 7, 8, 9, 10, 11] (by decide) rfl
    exact W.vret hx hb hret (fun t ht hW => ⟨⟨(x_40), rfl, (by subst e_x_40 e_r_5; exact (Eq.symm (Eq.trans (if_pos c_14) rfl))), by rw [ht]; exact hP, hD⟩, hS.F ht⟩) hS.2.2 dX4_choose_43
  · refine lv_aload_n hx hb dX4_choose_17 rfl (lv_at hl 4 rfl) ?_
    refine lv_iload hx hb dX4_choose_18 (lv_at hl 0 rfl) ?_
    have hPc := hP.sub (ws' := lt_Ps yI B' z' pg' nu' gu' pr') [5, 6, 7, 8, 9, 10, 11, 12, 13] rfl
    refine lt_cR (va_runV (As := [.int r_5]) (rest := []) ⟨hx, hb, hml, hown, hts⟩ (c_X5_isGood l D yI yC yO B' z' pg' nu' gu' pr' r_5 ) (cwV 1 hts gX4_choose_X5_isGood rfl rfl rfl (by decide +kernel) ⟨Nat.le_of_ble_eq_true rfl, Nat.le_of_ble_eq_true rfl⟩) (lt_pV hK0 hPc (va_recv hK hPc (ci := 5) (q0 := 0) rfl rfl)) rfl rfl hl.1 rfl (lv_room (Nat.le_of_ble_eq_true rfl)) dX4_choose_20 ⟨Nat.zero_le _, Nat.zero_le _⟩) (fun r_20 e_r_20 => ?_)
    refine lv_if_ne (tgt := 43) hx hb dX4_choose_23 (by decide) (fun c_23 => ?_) (fun c_23 => ?_)
    · exact W.vret hx hb hret (fun t ht hW => ⟨⟨(ch), rfl, (by subst e_r_20 e_r_5; exact (Eq.symm (Eq.trans (if_neg c_14) (Eq.trans (if_neg c_23) rfl)))), by rw [ht]; exact hP, hD⟩, hS.F ht⟩) hS.2.2 dX4_choose_43
    · refine lv_aload_n hx hb dX4_choose_26 rfl (lv_at hl 4 rfl) ?_
      refine lv_iload_n hx hb dX4_choose_27 rfl (lv_at hl 2 rfl) ?_
      have hPc := hP.sub (ws' := lt_Ps yI B' z' pg' nu' gu' pr') [5, 6, 7, 8, 9, 10, 11, 12, 13] rfl
      refine lt_cR (va_runV (As := [.int p0]) (rest := []) ⟨hx, hb, hml, hown, hts⟩ (c_X5_isGood l D yI yC yO B' z' pg' nu' gu' pr' p0 ) (cwV 1 hts gX4_choose_X5_isGood rfl rfl rfl (by decide +kernel) ⟨Nat.le_of_ble_eq_true rfl, Nat.le_of_ble_eq_true rfl⟩) (lt_pV hK0 hPc (va_recv hK hPc (ci := 5) (q0 := 0) rfl rfl)) rfl rfl hl.1 rfl (lv_room (Nat.le_of_ble_eq_true rfl)) dX4_choose_28 ⟨Nat.zero_le _, Nat.zero_le _⟩) (fun r_28 e_r_28 => ?_)
      refine lv_if_eq (tgt := 43) hx hb dX4_choose_31 (by decide) (fun c_31 => ?_) (fun c_31 => ?_)
      · exact W.vret hx hb hret (fun t ht hW => ⟨⟨(ch), rfl, (by subst e_r_28 e_r_20 e_r_5; exact (Eq.symm (Eq.trans (if_neg c_14) (Eq.trans (if_pos c_23) (Eq.trans (if_pos c_31) rfl))))), by rw [ht]; exact hP, hD⟩, hS.F ht⟩) hS.2.2 dX4_choose_43
      · refine lv_aload_n hx hb dX4_choose_34 rfl (lv_at hl 1 rfl) ?_
        refine va_get (D := D) (ci := 4) (v := .ref (G 3)) (C := RX4) (T := TX4) (N := 4) hx hb hts iw_X4_choose_4 hown hK hP 0 rfl rfl 1 (by decide) (hts (.fieldLink RX4 20 "LeafTurner$PageSet" "chosen" "LLeafTurner$Numbers;") (by decide +kernel)) (fun _ h9 => h9) rfl dX4_choose_35 ?_
        refine lv_iload_n hx hb dX4_choose_38 rfl (lv_at hl 3 rfl) ?_
        refine lv_iload_n hx hb dX4_choose_39 rfl (lv_at hl 2 rfl) ?_
        have hPc := hP.sub (ws' := lt_N2 yI (G 3) (G 4) 60 ch) [3, 4] rfl
        have hDc := hD.sub (ws' := lt_N2 yI (G 3) (G 4) 60 ch) [3, 4] (by decide) rfl
        refine lt_cWv (wc := lt_N2 yI (G 3) (G 4) 60 ch) (wr := [(G 0, .inr (4, [.ref (G 1), .ref (G 3), .int pi, .int pa])), (G 1, .inr (3, [.ref (G 2)])), (G 2, .inl (yI, 80, .inl gs)), (B' 8, .inr (5, [.ref (B' 9), .ref (B' 11), .ref (B' 13), .ref (B' 15), .int z'])), (B' 9, .inr (3, [.ref (B' 10)])), (B' 10, .inl (yI, 80, .inl pg')), (B' 11, .inr (3, [.ref (B' 12)])), (B' 12, .inl (yI, 80, .inl nu')), (B' 13, .inr (3, [.ref (B' 14)])), (B' 14, .inl (yI, 80, .inl gu')), (B' 15, .inr (3, [.ref (B' 16)])), (B' 16, .inl (yI, 80, .inl pr'))]) (va_runV (As := [.int p1, .int p0]) (rest := []) ⟨hx, hb, hml, hown, hts⟩ (c_X3_put l D yI yC yO (G 3) (G 4) 60 ch p1 p0 _ (by decide)) (cwV 2 hts gX4_choose_X3_put rfl rfl rfl (by decide +kernel) ⟨Nat.le_of_ble_eq_true rfl, Nat.le_of_ble_eq_true rfl⟩) (lt_qV hK0 hPc hDc (va_recv hK hPc (ci := 3) (q0 := 0) rfl rfl)) rfl rfl hl.1 rfl (lv_room (Nat.le_of_ble_eq_true rfl)) dX4_choose_40 ⟨Nat.zero_le _, Nat.zero_le _⟩) hP hD hS hA [3, 4] [0, 1, 2, 5, 6, 7, 8, 9, 10, 11, 12, 13] rfl rfl (by decide) (by decide) (fun x_40 e_x_40 H locs hP hD hS => ?_)
        have hP := hP.sub (ws' := lt_Pg yI G pi pa gs x_40 ++ lt_Ps yI B' z' pg' nu' gu' pr') [0, 1, 2, 12, 13, 3, 4, 5, 6, 7, 8, 9, 10, 11] rfl
        have hD := hD.sub (ws' := lt_Pg yI G pi pa gs x_40 ++ lt_Ps yI B' z' pg' nu' gu' pr') [0, 1, 2, 12, 13, 3, 4, 5, 6, 7, 8, 9, 10, 11] (by decide) rfl
        exact W.vret hx hb hret (fun t ht hW => ⟨⟨(x_40), rfl, (by subst e_x_40 e_r_28 e_r_20 e_r_5; exact (Eq.symm (Eq.trans (if_neg c_14) (Eq.trans (if_pos c_23) (Eq.trans (if_neg c_31) rfl))))), by rw [ht]; exact hP, hD⟩, hS.F ht⟩) hS.2.2 dX4_choose_43

def X4_makeFor_L36 (pi : Int32) (pa : Int32) (gs : Nat → Int32) (ch : Nat → Int32) (i' : Nat → Int32) (a' : Nat → Nat → Int32) : Nat → (Int32) → (Int32) → (Int32) → (Int32) → (Nat → Int32) → (Nat → Int32) → (Int32) × (Int32) × (Nat → Int32) × (Nat → Int32)
  | 0, _, _, _, _, _, _ => (pi, pa, gs, ch)
  | fu + 1, v2, v3, pi0, pa0, gs0, ch0 =>
    if pi0 ≤ v3 then
      (pi0, pa0, gs0, ch0)
    else
      let r_48 := X4_guessOf pi0 pa0 gs0 ch0 i' a' v3 v2
      let x_60 := X3_put 80 gs0 v3 r_48
      if r_48 = (-5) then
        X4_makeFor_L36 pi pa gs ch i' a' fu r_48 (v3 + 1) pi0 pa0 x_60 ch0
      else
        let x_78 := X4_choose pi0 pa0 x_60 ch0 (i' 2) (a' 3) (a' 4) (a' 5) (a' 6) v3 r_48
        X4_makeFor_L36 pi pa gs ch i' a' fu r_48 (v3 + 1) pi0 pa0 x_60 x_78
def X4_makeFor (pi : Int32) (pa : Int32) (gs : Nat → Int32) (ch : Nat → Int32) (i' : Nat → Int32) (a' : Nat → Nat → Int32) : (Int32) × (Int32) × (Nat → Int32) × (Nat → Int32) :=
  let r_16 := X0_pages (i' 0) (a' 0) (a' 1) (a' 2)
  let x_28 := X3_putAll 60 ch (-5)
  X4_makeFor_L36 pi pa gs ch i' a' ((((i' 2) : Int32).toInt - (0 : Int32).toInt).toNat + 1) (-5) 0 (i' 2) r_16 gs x_28
theorem iw_X4_makeFor_6 : ∀ w ∈ wsX60, w ∈ wsX4_makeFor := by decide +kernel
theorem iw_X4_makeFor_5 : ∀ w ∈ wsX50, w ∈ wsX4_makeFor := by decide +kernel
theorem iw_X4_makeFor_4 : ∀ w ∈ wsX40, w ∈ wsX4_makeFor := by decide +kernel
set_option maxHeartbeats 4000000 in
set_option maxRecDepth 100000 in
theorem c_X4_makeFor (l : Launch) (D : va_G) (yI yC yO : ClassId) (G : Nat → Nat) (B' : Nat → Nat) (pi : Int32) (pa : Int32) (gs : Nat → Int32) (ch : Nat → Int32) (i' : Nat → Int32) (a' : Nat → Nat → Int32) (sz : Nat) : Met l yX4_makeFor wsX4_makeFor ({ frames := 4, cells := 0, slots := 0, locals := 120 }) (va_Pc [.ref (G 0), .ref (B' 0)] (lt_M D yI yC yO (lt_Pg yI G pi pa gs ch ++ lt_St yI B' i' a') sz)) (lt_Qv D (X4_makeFor pi pa gs ch i' a') (fun u => lt_Pg yI G u.1 u.2.1 u.2.2.1 u.2.2.2 ++ lt_St yI B' i' a') (va_A (lt_Pg yI G pi pa gs ch ++ lt_St yI B' i' a') sz)) 0 0 (va_A (lt_Pg yI G pi pa gs ch ++ lt_St yI B' i' a') sz) := by
  refine Met.ofW (cc := cX4_makeFor) (maxL := 5) (ret := none) (by decide) rfl ?_
  intro p e s m args below meth c s₁ B0 hml hv
  obtain ⟨rfl, hsz, hP, hK0, hD0⟩ := hv
  have hx := B0.exec
  have hb := B0.bytes
  have hret := B0.returns
  have hts := atoms_spec (ws := wsX4_makeFor) B0.pre
  have hown : s.vm.findClass RX4 = some m.cls := findClass_of_methodNamed B0.named
  have hlocks := B0.notSynchronized
  have hK := hK0.1
  have hN := hK0.2
  subst hsz
  have hD := hD0.self (sz := s.heap.size)
  generalize hAe : va_A (lt_Pg yI G pi pa gs ch ++ lt_St yI B' i' a') s.heap.size = A at hD ⊢
  have hA : ∀ q : Nat, s.heap.size ≤ q → A q := fun q h => by rw [← hAe]; exact Or.inr h
  have hS : va_S A s.heap s.heap [] := va_S.rf
  have hP : va_P D vwCl (lt_Pg yI G pi pa gs ch ++ lt_St yI B' i' a') s.heap := hP
  have hD : va_D A (lt_Pg yI G pi pa gs ch ++ lt_St yI B' i' a') := hD
  have hl := lv_entry ([.ref (G 0), .ref (B' 0)]) (n := 5) (Nat.le_of_ble_eq_true rfl)
  rw [lg_entry_eq]
  generalize (lg_sl ([.ref (G 0), .ref (B' 0)]) ++ List.replicate (5 - (lg_sl ([.ref (G 0), .ref (B' 0)])).length) Slot.unset).toArray = ls at hl ⊢
  have hl : lv_has ls 5 [(0, .ref (G 0)), (1, .ref (B' 0))] := hl
  refine lv_aload_n hx hb dX4_makeFor_0 rfl (lv_at hl 0 rfl) ?_
  refine lv_aload_n hx hb dX4_makeFor_1 rfl (lv_at hl 1 rfl) ?_
  refine va_getN (D := D) (ci := 6) (v := .ref (B' 8)) (C := RX6) (T := TX6) (N := 10) hx hb hts iw_X4_makeFor_6 hown hK hP 5 rfl rfl 1 (by decide) (va_Nw.use rfl (hN _ lt_nw20)) (fun _ h9 => h9) rfl dX4_makeFor_2 ?_
  refine va_getN (D := D) (ci := 5) (v := .int (i' 2)) (C := RX5) (T := TX5) (N := 5) hx hb hts iw_X4_makeFor_5 hown hK hP 13 rfl rfl 4 (by decide) (va_Nw.use rfl (hN _ lt_nw14)) (fun _ h9 => h9) rfl dX4_makeFor_5 ?_
  refine va_put (D := D) (ci := 4) (v := .int (i' 2)) (ty := .int) (C := RX4) (T := TX4) (N := 4) hx hb hts iw_X4_makeFor_4 tyX4 tyX4_ok nmX4 hown hK hP hD hS 0 rfl rfl 2 (by decide) (hts (.fieldLink RX4 35 "LeafTurner$PageSet" "pictures" "I") (by decide +kernel)) (fun _ h9 => h9) rfl (by decide +kernel) rfl rfl (Nat.le_of_ble_eq_true rfl) dX4_makeFor_8 (fun H locs hP hD hS => ?_)
  have hP : va_P D vwCl (lt_Pg yI G (i' 2) pa gs ch ++ lt_St yI B' i' a') H := hP
  have hD : va_D A (lt_Pg yI G (i' 2) pa gs ch ++ lt_St yI B' i' a') := hD
  refine lv_aload_n hx hb dX4_makeFor_11 rfl (lv_at hl 0 rfl) ?_
  refine lv_aload_n hx hb dX4_makeFor_12 rfl (lv_at hl 1 rfl) ?_
  refine va_getN (D := D) (ci := 6) (v := .ref (B' 1)) (C := RX6) (T := TX6) (N := 10) hx hb hts iw_X4_makeFor_6 hown hK hP 5 rfl rfl 0 (by decide) (va_Nw.use rfl (hN _ lt_nw19)) (fun _ h9 => h9) rfl dX4_makeFor_13 ?_
  have hPc := hP.sub (ws' := lt_Bk yI B' (i' 0) (a' 0) (a' 1) (a' 2)) [6, 7, 8, 9, 10, 11, 12] rfl
  refine lt_cR (va_runV (As := []) (rest := [.ref (G 0)]) ⟨hx, hb, hml, hown, hts⟩ (c_X0_pages l D yI yC yO B' (i' 0) (a' 0) (a' 1) (a' 2) ) (cwV 0 hts gX4_makeFor_X0_pages rfl rfl rfl (by decide +kernel) ⟨Nat.le_of_ble_eq_true rfl, Nat.le_of_ble_eq_true rfl⟩) (lt_pV hK0 hPc (va_recv hK hPc (ci := 0) (q0 := 0) rfl rfl)) rfl rfl hl.1 rfl (lv_room (Nat.le_of_ble_eq_true rfl)) dX4_makeFor_16 ⟨Nat.zero_le _, Nat.zero_le _⟩) (fun r_16 e_r_16 => ?_)
  refine va_put (D := D) (ci := 4) (v := .int r_16) (ty := .int) (C := RX4) (T := TX4) (N := 4) hx hb hts iw_X4_makeFor_4 tyX4 tyX4_ok nmX4 hown hK hP hD hS 0 rfl rfl 3 (by decide) (hts (.fieldLink RX4 47 "LeafTurner$PageSet" "pages" "I") (by decide +kernel)) (fun _ h9 => h9) rfl (by decide +kernel) rfl rfl (Nat.le_of_ble_eq_true rfl) dX4_makeFor_19 (fun H locs hP hD hS => ?_)
  have hP : va_P D vwCl (lt_Pg yI G (i' 2) r_16 gs ch ++ lt_St yI B' i' a') H := hP
  have hD : va_D A (lt_Pg yI G (i' 2) r_16 gs ch ++ lt_St yI B' i' a') := hD
  refine lv_aload_n hx hb dX4_makeFor_22 rfl (lv_at hl 0 rfl) ?_
  refine va_get (D := D) (ci := 4) (v := .ref (G 3)) (C := RX4) (T := TX4) (N := 4) hx hb hts iw_X4_makeFor_4 hown hK hP 0 rfl rfl 1 (by decide) (hts (.fieldLink RX4 20 "LeafTurner$PageSet" "chosen" "LLeafTurner$Numbers;") (by decide +kernel)) (fun _ h9 => h9) rfl dX4_makeFor_23 ?_
  refine lv_bipush (v := (-5)) hx hb dX4_makeFor_26 (by decide) ?_
  have hPc := hP.sub (ws' := lt_N2 yI (G 3) (G 4) 60 ch) [3, 4] rfl
  have hDc := hD.sub (ws' := lt_N2 yI (G 3) (G 4) 60 ch) [3, 4] (by decide) rfl
  refine lt_cWv (wc := lt_N2 yI (G 3) (G 4) 60 ch) (wr := [(G 0, .inr (4, [.ref (G 1), .ref (G 3), .int (i' 2), .int r_16])), (G 1, .inr (3, [.ref (G 2)])), (G 2, .inl (yI, 80, .inl gs)), (B' 0, .inr (6, [.ref (B' 1), .ref (B' 8), .ref (B' 17), .int (i' 1), .int (i' 8), .int (i' 4), .int (i' 5), .int (i' 6), .int (i' 7), .int (i' 3)])), (B' 1, .inr (0, [.ref (B' 2), .ref (B' 4), .ref (B' 6), .int (i' 0)])), (B' 2, .inr (3, [.ref (B' 3)])), (B' 3, .inl (yI, 30, .inl (a' 0))), (B' 4, .inr (3, [.ref (B' 5)])), (B' 5, .inl (yI, 30, .inl (a' 1))), (B' 6, .inr (3, [.ref (B' 7)])), (B' 7, .inl (yI, 60, .inl (a' 2))), (B' 8, .inr (5, [.ref (B' 9), .ref (B' 11), .ref (B' 13), .ref (B' 15), .int (i' 2)])), (B' 9, .inr (3, [.ref (B' 10)])), (B' 10, .inl (yI, 80, .inl (a' 3))), (B' 11, .inr (3, [.ref (B' 12)])), (B' 12, .inl (yI, 80, .inl (a' 4))), (B' 13, .inr (3, [.ref (B' 14)])), (B' 14, .inl (yI, 80, .inl (a' 5))), (B' 15, .inr (3, [.ref (B' 16)])), (B' 16, .inl (yI, 80, .inl (a' 6))), (B' 17, .inr (3, [.ref (B' 18)])), (B' 18, .inl (yI, 3, .inl (a' 7)))]) (va_runV (As := [.int (-5)]) (rest := []) ⟨hx, hb, hml, hown, hts⟩ (c_X3_putAll l D yI yC yO (G 3) (G 4) 60 ch (-5) _ (by decide)) (cwV 1 hts gX4_makeFor_X3_putAll rfl rfl rfl (by decide +kernel) ⟨Nat.le_of_ble_eq_true rfl, Nat.le_of_ble_eq_true rfl⟩) (lt_qV hK0 hPc hDc (va_recv hK hPc (ci := 3) (q0 := 0) rfl rfl)) rfl rfl hl.1 rfl (lv_room (Nat.le_of_ble_eq_true rfl)) dX4_makeFor_28 ⟨Nat.zero_le _, Nat.zero_le _⟩) hP hD hS hA [3, 4] [0, 1, 2, 5, 6, 7, 8, 9, 10, 11, 12, 13, 14, 15, 16, 17, 18, 19, 20, 21, 22, 23] rfl rfl (by decide) (by decide) (fun x_28 e_x_28 H locs hP hD hS => ?_)
  have hP := hP.sub (ws' := lt_Pg yI G (i' 2) r_16 gs x_28 ++ lt_St yI B' i' a') [0, 1, 2, 22, 23, 3, 4, 5, 6, 7, 8, 9, 10, 11, 12, 13, 14, 15, 16, 17, 18, 19, 20, 21] rfl
  have hD := hD.sub (ws' := lt_Pg yI G (i' 2) r_16 gs x_28 ++ lt_St yI B' i' a') [0, 1, 2, 22, 23, 3, 4, 5, 6, 7, 8, 9, 10, 11, 12, 13, 14, 15, 16, 17, 18, 19, 20, 21] (by decide) rfl
  refine lv_bipush (v := (-5)) hx hb dX4_makeFor_31 (by decide) ?_
  refine lv_istore_n (lv' := [(2, .int (-5)), (0, .ref (G 0)), (1, .ref (B' 0))]) hx hb dX4_makeFor_33 rfl hl (by decide) rfl (fun ls hl => ?_)
  refine lv_iconst (v := 0) hx hb dX4_makeFor_34 (by decide) ?_
  refine lv_istore_n (lv' := [(3, .int 0), (2, .int (-5)), (0, .ref (G 0)), (1, .ref (B' 0))]) hx hb dX4_makeFor_35 rfl hl (by decide) rfl (fun ls hl => ?_)
  refine lt_loop (σ := (Int32) × (Int32) × (Int32) × (Int32) × (Nat → Int32) × (Nat → Int32)) (fun fu (x : (Int32) × (Int32) × (Int32) × (Int32) × (Nat → Int32) × (Nat → Int32)) H locs ls => ∃ (v2 : Int32) (v3 : Int32) (pi0 : Int32) (pa0 : Int32) (gs0 : Nat → Int32) (ch0 : Nat → Int32), x = (v2, v3, pi0, pa0, gs0, ch0) ∧ lt_fu fu (pi0) (v3) ∧ X4_makeFor_L36 pi pa gs ch i' a' fu v2 v3 pi0 pa0 gs0 ch0 = X4_makeFor pi pa gs ch i' a' ∧ va_P D vwCl (lt_Pg yI G pi0 pa0 gs0 ch0 ++ lt_St yI B' i' a') H ∧ va_D A (lt_Pg yI G pi0 pa0 gs0 ch0 ++ lt_St yI B' i' a') ∧ va_S A s.heap H locs ∧ lv_has ls 5 [(3, .int v3), (2, .int v2), (0, .ref (G 0)), (1, .ref (B' 0))]) ?_ ?_ ((((i' 2) : Int32).toInt - (0 : Int32).toInt).toNat + 1) ((-5), 0, (i' 2), r_16, gs, x_28) _ _ _ ⟨(-5), 0, (i' 2), r_16, gs, x_28, rfl, lt_fuI _ _, (by subst e_x_28 e_r_16; exact (Eq.symm rfl)), hP, hD, hS, (lv_sub hl [0, 1, 2, 3] rfl)⟩
  · rintro x H locs ls ⟨_, _, _, _, _, _, -, hF, -⟩
    exact lt_fu0 hF
  · rintro fu ih x H locs ls ⟨v2, v3, pi0, pa0, gs0, ch0, rfl, hF, hT, hP, hD, hS, hl⟩
    refine lv_iload_n hx hb dX4_makeFor_36 rfl (lv_at hl 0 rfl) ?_
    refine lv_aload_n hx hb dX4_makeFor_37 rfl (lv_at hl 2 rfl) ?_
    refine va_get (D := D) (ci := 4) (v := .int pi0) (C := RX4) (T := TX4) (N := 4) hx hb hts iw_X4_makeFor_4 hown hK hP 0 rfl rfl 2 (by decide) (hts (.fieldLink RX4 35 "LeafTurner$PageSet" "pictures" "I") (by decide +kernel)) (fun _ h9 => h9) rfl dX4_makeFor_38 ?_
    refine lv_icmp_ge (tgt := 90) hx hb dX4_makeFor_41 (by decide) (fun c_41 => ?_) (fun c_41 => ?_)
    · exact W.vret hx hb hret (fun t ht hW => ⟨⟨(pi0, pa0, gs0, ch0), rfl, (Eq.trans (Eq.symm (Eq.trans (if_pos c_41) rfl)) hT), by rw [ht]; exact hP, hD⟩, hS.F ht⟩) hS.2.2 dX4_makeFor_90
    · refine lv_aload_n hx hb dX4_makeFor_44 rfl (lv_at hl 2 rfl) ?_
      refine lv_iload_n hx hb dX4_makeFor_45 rfl (lv_at hl 0 rfl) ?_
      refine lv_iload_n hx hb dX4_makeFor_46 rfl (lv_at hl 1 rfl) ?_
      refine lv_aload_n hx hb dX4_makeFor_47 rfl (lv_at hl 3 rfl) ?_
      have hPc := hP.sub (ws' := lt_Pg yI G pi0 pa0 gs0 ch0 ++ lt_St yI B' i' a') [0, 1, 2, 3, 4, 5, 6, 7, 8, 9, 10, 11, 12, 13, 14, 15, 16, 17, 18, 19, 20, 21, 22, 23] rfl
      refine lt_cR (va_runV (As := [.int v3, .int v2, .ref (B' 0)]) (rest := []) ⟨hx, hb, hml, hown, hts⟩ (c_X4_guessOf l D yI yC yO G B' pi0 pa0 gs0 ch0 i' a' v3 v2 ) (cwV 3 hts gX4_makeFor_X4_guessOf rfl rfl rfl (by decide +kernel) ⟨Nat.le_of_ble_eq_true rfl, Nat.le_of_ble_eq_true rfl⟩) (lt_pV hK0 hPc (va_recv hK hPc (ci := 4) (q0 := 0) rfl rfl)) rfl rfl hl.1 rfl (lv_room (Nat.le_of_ble_eq_true rfl)) dX4_makeFor_48 ⟨Nat.zero_le _, Nat.zero_le _⟩) (fun r_48 e_r_48 => ?_)
      refine lv_istore (lv' := [(4, .int r_48), (3, .int v3), (2, .int v2), (0, .ref (G 0)), (1, .ref (B' 0))]) hx hb dX4_makeFor_51 hl (by decide) rfl (fun ls hl => ?_)
      refine lv_aload_n hx hb dX4_makeFor_53 rfl (lv_at hl 3 rfl) ?_
      refine va_get (D := D) (ci := 4) (v := .ref (G 1)) (C := RX4) (T := TX4) (N := 4) hx hb hts iw_X4_makeFor_4 hown hK hP 0 rfl rfl 0 (by decide) (hts (.fieldLink RX4 14 "LeafTurner$PageSet" "guesses" "LLeafTurner$Numbers;") (by decide +kernel)) (fun _ h9 => h9) rfl dX4_makeFor_54 ?_
      refine lv_iload_n hx hb dX4_makeFor_57 rfl (lv_at hl 1 rfl) ?_
      refine lv_iload hx hb dX4_makeFor_58 (lv_at hl 0 rfl) ?_
      have hPc := hP.sub (ws' := lt_N2 yI (G 1) (G 2) 80 gs0) [1, 2] rfl
      have hDc := hD.sub (ws' := lt_N2 yI (G 1) (G 2) 80 gs0) [1, 2] (by decide) rfl
      refine lt_cWv (wc := lt_N2 yI (G 1) (G 2) 80 gs0) (wr := [(G 0, .inr (4, [.ref (G 1), .ref (G 3), .int pi0, .int pa0])), (G 3, .inr (3, [.ref (G 4)])), (G 4, .inl (yI, 60, .inl ch0)), (B' 0, .inr (6, [.ref (B' 1), .ref (B' 8), .ref (B' 17), .int (i' 1), .int (i' 8), .int (i' 4), .int (i' 5), .int (i' 6), .int (i' 7), .int (i' 3)])), (B' 1, .inr (0, [.ref (B' 2), .ref (B' 4), .ref (B' 6), .int (i' 0)])), (B' 2, .inr (3, [.ref (B' 3)])), (B' 3, .inl (yI, 30, .inl (a' 0))), (B' 4, .inr (3, [.ref (B' 5)])), (B' 5, .inl (yI, 30, .inl (a' 1))), (B' 6, .inr (3, [.ref (B' 7)])), (B' 7, .inl (yI, 60, .inl (a' 2))), (B' 8, .inr (5, [.ref (B' 9), .ref (B' 11), .ref (B' 13), .ref (B' 15), .int (i' 2)])), (B' 9, .inr (3, [.ref (B' 10)])), (B' 10, .inl (yI, 80, .inl (a' 3))), (B' 11, .inr (3, [.ref (B' 12)])), (B' 12, .inl (yI, 80, .inl (a' 4))), (B' 13, .inr (3, [.ref (B' 14)])), (B' 14, .inl (yI, 80, .inl (a' 5))), (B' 15, .inr (3, [.ref (B' 16)])), (B' 16, .inl (yI, 80, .inl (a' 6))), (B' 17, .inr (3, [.ref (B' 18)])), (B' 18, .inl (yI, 3, .inl (a' 7)))]) (va_runV (As := [.int v3, .int r_48]) (rest := []) ⟨hx, hb, hml, hown, hts⟩ (c_X3_put l D yI yC yO (G 1) (G 2) 80 gs0 v3 r_48 _ (by decide)) (cwV 2 hts gX4_makeFor_X3_put rfl rfl rfl (by decide +kernel) ⟨Nat.le_of_ble_eq_true rfl, Nat.le_of_ble_eq_true rfl⟩) (lt_qV hK0 hPc hDc (va_recv hK hPc (ci := 3) (q0 := 0) rfl rfl)) rfl rfl hl.1 rfl (lv_room (Nat.le_of_ble_eq_true rfl)) dX4_makeFor_60 ⟨Nat.zero_le _, Nat.zero_le _⟩) hP hD hS hA [1, 2] [0, 3, 4, 5, 6, 7, 8, 9, 10, 11, 12, 13, 14, 15, 16, 17, 18, 19, 20, 21, 22, 23] rfl rfl (by decide) (by decide) (fun x_60 e_x_60 H locs hP hD hS => ?_)
      have hP := hP.sub (ws' := lt_Pg yI G pi0 pa0 x_60 ch0 ++ lt_St yI B' i' a') [0, 22, 23, 1, 2, 3, 4, 5, 6, 7, 8, 9, 10, 11, 12, 13, 14, 15, 16, 17, 18, 19, 20, 21] rfl
      have hD := hD.sub (ws' := lt_Pg yI G pi0 pa0 x_60 ch0 ++ lt_St yI B' i' a') [0, 22, 23, 1, 2, 3, 4, 5, 6, 7, 8, 9, 10, 11, 12, 13, 14, 15, 16, 17, 18, 19, 20, 21] (by decide) rfl
      refine lv_iload hx hb dX4_makeFor_63 (lv_at hl 0 rfl) ?_
      refine lv_bipush (v := (-5)) hx hb dX4_makeFor_65 (by decide) ?_
      refine lv_icmp_eq (tgt := 81) hx hb dX4_makeFor_67 (by decide) (fun c_67 => ?_) (fun c_67 => ?_)
      · refine lv_iload hx hb dX4_makeFor_81 (lv_at hl 0 rfl) ?_
        refine lv_istore_n (lv' := [(2, .int r_48), (4, .int r_48), (3, .int v3), (0, .ref (G 0)), (1, .ref (B' 0))]) hx hb dX4_makeFor_83 rfl hl (by decide) rfl (fun ls hl => ?_)
        refine lv_iinc (v := (v3 + 1)) (lv' := [(3, .int (v3 + 1)), (2, .int r_48), (4, .int r_48), (0, .ref (G 0)), (1, .ref (B' 0))]) hx hb dX4_makeFor_84 hl (k := 2) rfl (rfl) (by decide) rfl (fun ls hl => ?_)
        refine lv_goto (tgt := 36) hx hb dX4_makeFor_87 (by decide) ?_
        exact ih (r_48, (v3 + 1), pi0, pa0, x_60, ch0) _ _ _ ⟨r_48, (v3 + 1), pi0, pa0, x_60, ch0, rfl, lt_fuS hF (lt_nle c_41), (by subst e_x_60 e_r_48; exact (Eq.trans (Eq.symm (Eq.trans (if_neg c_41) (Eq.trans (if_pos c_67) rfl))) hT)), hP, hD, hS, lv_sub hl [0, 1, 3, 4] rfl⟩
      · refine lv_aload_n hx hb dX4_makeFor_70 rfl (lv_at hl 3 rfl) ?_
        refine lv_iload_n hx hb dX4_makeFor_71 rfl (lv_at hl 1 rfl) ?_
        refine lv_iload hx hb dX4_makeFor_72 (lv_at hl 0 rfl) ?_
        refine lv_aload_n hx hb dX4_makeFor_74 rfl (lv_at hl 4 rfl) ?_
        refine va_getN (D := D) (ci := 6) (v := .ref (B' 8)) (C := RX6) (T := TX6) (N := 10) hx hb hts iw_X4_makeFor_6 hown hK hP 5 rfl rfl 1 (by decide) (va_Nw.use rfl (hN _ lt_nw20)) (fun _ h9 => h9) rfl dX4_makeFor_75 ?_
        have hPc := hP.sub (ws' := lt_Pg yI G pi0 pa0 x_60 ch0 ++ lt_Ps yI B' (i' 2) (a' 3) (a' 4) (a' 5) (a' 6)) [0, 1, 2, 3, 4, 13, 14, 15, 16, 17, 18, 19, 20, 21] rfl
        have hDc := hD.sub (ws' := lt_Pg yI G pi0 pa0 x_60 ch0 ++ lt_Ps yI B' (i' 2) (a' 3) (a' 4) (a' 5) (a' 6)) [0, 1, 2, 3, 4, 13, 14, 15, 16, 17, 18, 19, 20, 21] (by decide) rfl
        refine lt_cWv (wc := lt_Pg yI G pi0 pa0 x_60 ch0 ++ lt_Ps yI B' (i' 2) (a' 3) (a' 4) (a' 5) (a' 6)) (wr := [(B' 0, .inr (6, [.ref (B' 1), .ref (B' 8), .ref (B' 17), .int (i' 1), .int (i' 8), .int (i' 4), .int (i' 5), .int (i' 6), .int (i' 7), .int (i' 3)])), (B' 1, .inr (0, [.ref (B' 2), .ref (B' 4), .ref (B' 6), .int (i' 0)])), (B' 2, .inr (3, [.ref (B' 3)])), (B' 3, .inl (yI, 30, .inl (a' 0))), (B' 4, .inr (3, [.ref (B' 5)])), (B' 5, .inl (yI, 30, .inl (a' 1))), (B' 6, .inr (3, [.ref (B' 7)])), (B' 7, .inl (yI, 60, .inl (a' 2))), (B' 17, .inr (3, [.ref (B' 18)])), (B' 18, .inl (yI, 3, .inl (a' 7)))]) (va_runV (As := [.int v3, .int r_48, .ref (B' 8)]) (rest := []) ⟨hx, hb, hml, hown, hts⟩ (c_X4_choose l D yI yC yO G B' pi0 pa0 x_60 ch0 (i' 2) (a' 3) (a' 4) (a' 5) (a' 6) v3 r_48 _ ) (cwV 3 hts gX4_makeFor_X4_choose rfl rfl rfl (by decide +kernel) ⟨Nat.le_of_ble_eq_true rfl, Nat.le_of_ble_eq_true rfl⟩) (lt_qV hK0 hPc hDc (va_recv hK hPc (ci := 4) (q0 := 0) rfl rfl)) rfl rfl hl.1 rfl (lv_room (Nat.le_of_ble_eq_true rfl)) dX4_makeFor_78 ⟨Nat.zero_le _, Nat.zero_le _⟩) hP hD hS hA [0, 1, 2, 3, 4, 13, 14, 15, 16, 17, 18, 19, 20, 21] [5, 6, 7, 8, 9, 10, 11, 12, 22, 23] rfl rfl (by decide) (by decide) (fun x_78 e_x_78 H locs hP hD hS => ?_)
        have hP := hP.sub (ws' := lt_Pg yI G pi0 pa0 x_60 x_78 ++ lt_St yI B' i' a') [10, 11, 12, 13, 14, 0, 1, 2, 3, 4, 5, 6, 7, 15, 16, 17, 18, 19, 20, 21, 22, 23, 8, 9] rfl
        have hD := hD.sub (ws' := lt_Pg yI G pi0 pa0 x_60 x_78 ++ lt_St yI B' i' a') [10, 11, 12, 13, 14, 0, 1, 2, 3, 4, 5, 6, 7, 15, 16, 17, 18, 19, 20, 21, 22, 23, 8, 9] (by decide) rfl
        refine lv_iload hx hb dX4_makeFor_81 (lv_at hl 0 rfl) ?_
        refine lv_istore_n (lv' := [(2, .int r_48), (4, .int r_48), (3, .int v3), (0, .ref (G 0)), (1, .ref (B' 0))]) hx hb dX4_makeFor_83 rfl hl (by decide) rfl (fun ls hl => ?_)
        refine lv_iinc (v := (v3 + 1)) (lv' := [(3, .int (v3 + 1)), (2, .int r_48), (4, .int r_48), (0, .ref (G 0)), (1, .ref (B' 0))]) hx hb dX4_makeFor_84 hl (k := 2) rfl (rfl) (by decide) rfl (fun ls hl => ?_)
        refine lv_goto (tgt := 36) hx hb dX4_makeFor_87 (by decide) ?_
        exact ih (r_48, (v3 + 1), pi0, pa0, x_60, x_78) _ _ _ ⟨r_48, (v3 + 1), pi0, pa0, x_60, x_78, rfl, lt_fuS hF (lt_nle c_41), (by subst e_x_78 e_x_60 e_r_48; exact (Eq.trans (Eq.symm (Eq.trans (if_neg c_41) (Eq.trans (if_neg c_67) rfl))) hT)), hP, hD, hS, lv_sub hl [0, 1, 3, 4] rfl⟩

def X4_isSpare (pi : Int32) (pa : Int32) (gs : Nat → Int32) (ch : Nat → Int32) (p0 : Int32) : Int32 :=
  let r_5 := X3_at 80 gs p0
  if r_5 = (-5) then
    1
  else
    let r_20 := X3_at 60 ch r_5
    if r_20 = p0 then
      0
    else
      1
theorem iw_X4_isSpare_4 : ∀ w ∈ wsX40, w ∈ wsX4_isSpare := by decide +kernel
set_option maxHeartbeats 4000000 in
set_option maxRecDepth 100000 in
theorem c_X4_isSpare (l : Launch) (D : va_G) (yI yC yO : ClassId) (G : Nat → Nat) (pi : Int32) (pa : Int32) (gs : Nat → Int32) (ch : Nat → Int32) (p0 : Int32) : Met l yX4_isSpare wsX4_isSpare ({ frames := 2, cells := 0, slots := 0, locals := 60 }) (va_Pc [.ref (G 0), .int p0] (lt_R D yI yC yO (lt_Pg yI G pi pa gs ch))) (lt_Si (X4_isSpare pi pa gs ch p0)) 0 0 (fun _ => False) := by
  refine Met.ofW (cc := cX4_isSpare) (maxL := 3) (ret := (some .boolean)) (by decide) rfl ?_
  intro p e s m args below meth c s₁ B0 hml hv
  obtain ⟨rfl, hP, hK0⟩ := hv
  have hx := B0.exec
  have hb := B0.bytes
  have hret := B0.returns
  have hts := atoms_spec (ws := wsX4_isSpare) B0.pre
  have hown : s.vm.findClass RX4 = some m.cls := findClass_of_methodNamed B0.named
  have hlocks := B0.notSynchronized
  have hK := hK0.1
  have hN := hK0.2
  have hP : va_P D vwCl (lt_Pg yI G pi pa gs ch) s.heap := hP
  have hl := lv_entry ([.ref (G 0), .int p0]) (n := 3) (Nat.le_of_ble_eq_true rfl)
  rw [lg_entry_eq]
  generalize (lg_sl ([.ref (G 0), .int p0]) ++ List.replicate (3 - (lg_sl ([.ref (G 0), .int p0])).length) Slot.unset).toArray = ls at hl ⊢
  have hl : lv_has ls 3 [(0, .ref (G 0)), (1, .int p0)] := hl
  refine lv_aload_n hx hb dX4_isSpare_0 rfl (lv_at hl 0 rfl) ?_
  refine va_get (D := D) (ci := 4) (v := .ref (G 1)) (C := RX4) (T := TX4) (N := 4) hx hb hts iw_X4_isSpare_4 hown hK hP 0 rfl rfl 0 (by decide) (hts (.fieldLink RX4 14 "LeafTurner$PageSet" "guesses" "LLeafTurner$Numbers;") (by decide +kernel)) (fun _ h9 => h9) rfl dX4_isSpare_1 ?_
  refine lv_iload_n hx hb dX4_isSpare_4 rfl (lv_at hl 1 rfl) ?_
  have hPc := hP.sub (ws' := lt_N2 yI (G 1) (G 2) 80 gs) [1, 2] rfl
  refine lt_cR (va_runV (As := [.int p0]) (rest := []) ⟨hx, hb, hml, hown, hts⟩ (c_X3_at l D yI yC yO (G 1) (G 2) 80 gs p0 (by decide)) (cwV 1 hts gX4_isSpare_X3_at rfl rfl rfl (by decide +kernel) ⟨Nat.le_of_ble_eq_true rfl, Nat.le_of_ble_eq_true rfl⟩) (lt_pV hK0 hPc (va_recv hK hPc (ci := 3) (q0 := 0) rfl rfl)) rfl rfl hl.1 rfl (lv_room (Nat.le_of_ble_eq_true rfl)) dX4_isSpare_5 ⟨Nat.zero_le _, Nat.zero_le _⟩) (fun r_5 e_r_5 => ?_)
  refine lv_istore_n (lv' := [(2, .int r_5), (0, .ref (G 0)), (1, .int p0)]) hx hb dX4_isSpare_8 rfl hl (by decide) rfl (fun ls hl => ?_)
  refine lv_iload_n hx hb dX4_isSpare_9 rfl (lv_at hl 0 rfl) ?_
  refine lv_bipush (v := (-5)) hx hb dX4_isSpare_10 (by decide) ?_
  refine lv_icmp_eq (tgt := 27) hx hb dX4_isSpare_12 (by decide) (fun c_12 => ?_) (fun c_12 => ?_)
  · refine lv_iconst (v := 1) hx hb dX4_isSpare_27 (by decide) ?_
    refine lv_goto (tgt := 32) hx hb dX4_isSpare_28 (by decide) ?_
    exact W.zret (v := 1) hx hb hret lt_z1 (fun t ht hW => ⟨1, rfl, (by subst e_r_5; exact (Eq.symm (Eq.trans (if_pos c_12) rfl))), ht⟩) (fun _ h => absurd h List.not_mem_nil) dX4_isSpare_32
  · refine lv_aload_n hx hb dX4_isSpare_15 rfl (lv_at hl 1 rfl) ?_
    refine va_get (D := D) (ci := 4) (v := .ref (G 3)) (C := RX4) (T := TX4) (N := 4) hx hb hts iw_X4_isSpare_4 hown hK hP 0 rfl rfl 1 (by decide) (hts (.fieldLink RX4 20 "LeafTurner$PageSet" "chosen" "LLeafTurner$Numbers;") (by decide +kernel)) (fun _ h9 => h9) rfl dX4_isSpare_16 ?_
    refine lv_iload_n hx hb dX4_isSpare_19 rfl (lv_at hl 0 rfl) ?_
    have hPc := hP.sub (ws' := lt_N2 yI (G 3) (G 4) 60 ch) [3, 4] rfl
    refine lt_cR (va_runV (As := [.int r_5]) (rest := []) ⟨hx, hb, hml, hown, hts⟩ (c_X3_at l D yI yC yO (G 3) (G 4) 60 ch r_5 (by decide)) (cwV 1 hts gX4_isSpare_X3_at rfl rfl rfl (by decide +kernel) ⟨Nat.le_of_ble_eq_true rfl, Nat.le_of_ble_eq_true rfl⟩) (lt_pV hK0 hPc (va_recv hK hPc (ci := 3) (q0 := 0) rfl rfl)) rfl rfl hl.1 rfl (lv_room (Nat.le_of_ble_eq_true rfl)) dX4_isSpare_20 ⟨Nat.zero_le _, Nat.zero_le _⟩) (fun r_20 e_r_20 => ?_)
    refine lv_iload_n hx hb dX4_isSpare_23 rfl (lv_at hl 2 rfl) ?_
    refine lv_icmp_eq (tgt := 31) hx hb dX4_isSpare_24 (by decide) (fun c_24 => ?_) (fun c_24 => ?_)
    · refine lv_iconst (v := 0) hx hb dX4_isSpare_31 (by decide) ?_
      exact W.zret (v := 0) hx hb hret lt_z0 (fun t ht hW => ⟨0, rfl, (by subst e_r_20 e_r_5; exact (Eq.symm (Eq.trans (if_neg c_12) (Eq.trans (if_pos c_24) rfl)))), ht⟩) (fun _ h => absurd h List.not_mem_nil) dX4_isSpare_32
    · refine lv_iconst (v := 1) hx hb dX4_isSpare_27 (by decide) ?_
      refine lv_goto (tgt := 32) hx hb dX4_isSpare_28 (by decide) ?_
      exact W.zret (v := 1) hx hb hret lt_z1 (fun t ht hW => ⟨1, rfl, (by subst e_r_20 e_r_5; exact (Eq.symm (Eq.trans (if_neg c_12) (Eq.trans (if_neg c_24) rfl)))), ht⟩) (fun _ h => absurd h List.not_mem_nil) dX4_isSpare_32

def X4_isDoubtful (pi : Int32) (pa : Int32) (gs : Nat → Int32) (ch : Nat → Int32) (z' : Int32) (pg' : Nat → Int32) (nu' : Nat → Int32) (gu' : Nat → Int32) (pr' : Nat → Int32) (p0 : Int32) : Int32 :=
  let r_5 := X3_at 60 ch p0
  if r_5 = (-5) then
    0
  else
    let r_20 := X3_at 80 pg' r_5
    if r_20 = p0 then
      0
    else
      1
theorem iw_X4_isDoubtful_4 : ∀ w ∈ wsX40, w ∈ wsX4_isDoubtful := by decide +kernel
theorem iw_X4_isDoubtful_5 : ∀ w ∈ wsX50, w ∈ wsX4_isDoubtful := by decide +kernel
set_option maxHeartbeats 4000000 in
set_option maxRecDepth 100000 in
theorem c_X4_isDoubtful (l : Launch) (D : va_G) (yI yC yO : ClassId) (G : Nat → Nat) (B' : Nat → Nat) (pi : Int32) (pa : Int32) (gs : Nat → Int32) (ch : Nat → Int32) (z' : Int32) (pg' : Nat → Int32) (nu' : Nat → Int32) (gu' : Nat → Int32) (pr' : Nat → Int32) (p0 : Int32) : Met l yX4_isDoubtful wsX4_isDoubtful ({ frames := 2, cells := 0, slots := 0, locals := 60 }) (va_Pc [.ref (G 0), .int p0, .ref (B' 8)] (lt_R D yI yC yO (lt_Pg yI G pi pa gs ch ++ lt_Ps yI B' z' pg' nu' gu' pr'))) (lt_Si (X4_isDoubtful pi pa gs ch z' pg' nu' gu' pr' p0)) 0 0 (fun _ => False) := by
  refine Met.ofW (cc := cX4_isDoubtful) (maxL := 4) (ret := (some .boolean)) (by decide) rfl ?_
  intro p e s m args below meth c s₁ B0 hml hv
  obtain ⟨rfl, hP, hK0⟩ := hv
  have hx := B0.exec
  have hb := B0.bytes
  have hret := B0.returns
  have hts := atoms_spec (ws := wsX4_isDoubtful) B0.pre
  have hown : s.vm.findClass RX4 = some m.cls := findClass_of_methodNamed B0.named
  have hlocks := B0.notSynchronized
  have hK := hK0.1
  have hN := hK0.2
  have hP : va_P D vwCl (lt_Pg yI G pi pa gs ch ++ lt_Ps yI B' z' pg' nu' gu' pr') s.heap := hP
  have hl := lv_entry ([.ref (G 0), .int p0, .ref (B' 8)]) (n := 4) (Nat.le_of_ble_eq_true rfl)
  rw [lg_entry_eq]
  generalize (lg_sl ([.ref (G 0), .int p0, .ref (B' 8)]) ++ List.replicate (4 - (lg_sl ([.ref (G 0), .int p0, .ref (B' 8)])).length) Slot.unset).toArray = ls at hl ⊢
  have hl : lv_has ls 4 [(0, .ref (G 0)), (1, .int p0), (2, .ref (B' 8))] := hl
  refine lv_aload_n hx hb dX4_isDoubtful_0 rfl (lv_at hl 0 rfl) ?_
  refine va_get (D := D) (ci := 4) (v := .ref (G 3)) (C := RX4) (T := TX4) (N := 4) hx hb hts iw_X4_isDoubtful_4 hown hK hP 0 rfl rfl 1 (by decide) (hts (.fieldLink RX4 20 "LeafTurner$PageSet" "chosen" "LLeafTurner$Numbers;") (by decide +kernel)) (fun _ h9 => h9) rfl dX4_isDoubtful_1 ?_
  refine lv_iload_n hx hb dX4_isDoubtful_4 rfl (lv_at hl 1 rfl) ?_
  have hPc := hP.sub (ws' := lt_N2 yI (G 3) (G 4) 60 ch) [3, 4] rfl
  refine lt_cR (va_runV (As := [.int p0]) (rest := []) ⟨hx, hb, hml, hown, hts⟩ (c_X3_at l D yI yC yO (G 3) (G 4) 60 ch p0 (by decide)) (cwV 1 hts gX4_isDoubtful_X3_at rfl rfl rfl (by decide +kernel) ⟨Nat.le_of_ble_eq_true rfl, Nat.le_of_ble_eq_true rfl⟩) (lt_pV hK0 hPc (va_recv hK hPc (ci := 3) (q0 := 0) rfl rfl)) rfl rfl hl.1 rfl (lv_room (Nat.le_of_ble_eq_true rfl)) dX4_isDoubtful_5 ⟨Nat.zero_le _, Nat.zero_le _⟩) (fun r_5 e_r_5 => ?_)
  refine lv_istore_n (lv' := [(3, .int r_5), (0, .ref (G 0)), (1, .int p0), (2, .ref (B' 8))]) hx hb dX4_isDoubtful_8 rfl hl (by decide) rfl (fun ls hl => ?_)
  refine lv_iload_n hx hb dX4_isDoubtful_9 rfl (lv_at hl 0 rfl) ?_
  refine lv_bipush (v := (-5)) hx hb dX4_isDoubtful_10 (by decide) ?_
  refine lv_icmp_eq (tgt := 31) hx hb dX4_isDoubtful_12 (by decide) (fun c_12 => ?_) (fun c_12 => ?_)
  · refine lv_iconst (v := 0) hx hb dX4_isDoubtful_31 (by decide) ?_
    exact W.zret (v := 0) hx hb hret lt_z0 (fun t ht hW => ⟨0, rfl, (by subst e_r_5; exact (Eq.symm (Eq.trans (if_pos c_12) rfl))), ht⟩) (fun _ h => absurd h List.not_mem_nil) dX4_isDoubtful_32
  · refine lv_aload_n hx hb dX4_isDoubtful_15 rfl (lv_at hl 3 rfl) ?_
    refine va_getN (D := D) (ci := 5) (v := .ref (B' 9)) (C := RX5) (T := TX5) (N := 5) hx hb hts iw_X4_isDoubtful_5 hown hK hP 5 rfl rfl 0 (by decide) (va_Nw.use rfl (hN _ lt_nw9)) (fun _ h9 => h9) rfl dX4_isDoubtful_16 ?_
    refine lv_iload_n hx hb dX4_isDoubtful_19 rfl (lv_at hl 0 rfl) ?_
    have hPc := hP.sub (ws' := lt_N2 yI (B' 9) (B' 10) 80 pg') [6, 7] rfl
    refine lt_cR (va_runV (As := [.int r_5]) (rest := []) ⟨hx, hb, hml, hown, hts⟩ (c_X3_at l D yI yC yO (B' 9) (B' 10) 80 pg' r_5 (by decide)) (cwV 1 hts gX4_isDoubtful_X3_at rfl rfl rfl (by decide +kernel) ⟨Nat.le_of_ble_eq_true rfl, Nat.le_of_ble_eq_true rfl⟩) (lt_pV hK0 hPc (va_recv hK hPc (ci := 3) (q0 := 0) rfl rfl)) rfl rfl hl.1 rfl (lv_room (Nat.le_of_ble_eq_true rfl)) dX4_isDoubtful_20 ⟨Nat.zero_le _, Nat.zero_le _⟩) (fun r_20 e_r_20 => ?_)
    refine lv_iload_n hx hb dX4_isDoubtful_23 rfl (lv_at hl 2 rfl) ?_
    refine lv_icmp_eq (tgt := 31) hx hb dX4_isDoubtful_24 (by decide) (fun c_24 => ?_) (fun c_24 => ?_)
    · refine lv_iconst (v := 0) hx hb dX4_isDoubtful_31 (by decide) ?_
      exact W.zret (v := 0) hx hb hret lt_z0 (fun t ht hW => ⟨0, rfl, (by subst e_r_20 e_r_5; exact (Eq.symm (Eq.trans (if_neg c_12) (Eq.trans (if_pos c_24) rfl)))), ht⟩) (fun _ h => absurd h List.not_mem_nil) dX4_isDoubtful_32
    · refine lv_iconst (v := 1) hx hb dX4_isDoubtful_27 (by decide) ?_
      refine lv_goto (tgt := 32) hx hb dX4_isDoubtful_28 (by decide) ?_
      exact W.zret (v := 1) hx hb hret lt_z1 (fun t ht hW => ⟨1, rfl, (by subst e_r_20 e_r_5; exact (Eq.symm (Eq.trans (if_neg c_12) (Eq.trans (if_neg c_24) rfl)))), ht⟩) (fun _ h => absurd h List.not_mem_nil) dX4_isDoubtful_32

def X4_lackingAt_L4 (pi : Int32) (pa : Int32) (gs : Nat → Int32) (ch : Nat → Int32) (p0 : Int32) : Nat → (Int32) → (Int32) → Int32
  | 0, _, _ => 0
  | fu + 1, v2, v3 =>
    if pa ≤ v3 then
      (-5)
    else
      let r_17 := X3_at 60 ch v3
      if r_17 = (-5) then
        if v2 = p0 then
          v3
        else
          X4_lackingAt_L4 pi pa gs ch p0 fu (v2 + 1) (v3 + 1)
      else
        X4_lackingAt_L4 pi pa gs ch p0 fu v2 (v3 + 1)
def X4_lackingAt (pi : Int32) (pa : Int32) (gs : Nat → Int32) (ch : Nat → Int32) (p0 : Int32) : Int32 :=
  X4_lackingAt_L4 pi pa gs ch p0 (((pa : Int32).toInt - (0 : Int32).toInt).toNat + 1) 0 0
theorem iw_X4_lackingAt_4 : ∀ w ∈ wsX40, w ∈ wsX4_lackingAt := by decide +kernel
set_option maxHeartbeats 4000000 in
set_option maxRecDepth 100000 in
theorem c_X4_lackingAt (l : Launch) (D : va_G) (yI yC yO : ClassId) (G : Nat → Nat) (pi : Int32) (pa : Int32) (gs : Nat → Int32) (ch : Nat → Int32) (p0 : Int32) : Met l yX4_lackingAt wsX4_lackingAt ({ frames := 2, cells := 0, slots := 0, locals := 60 }) (va_Pc [.ref (G 0), .int p0] (lt_R D yI yC yO (lt_Pg yI G pi pa gs ch))) (lt_Si (X4_lackingAt pi pa gs ch p0)) 0 0 (fun _ => False) := by
  refine Met.ofW (cc := cX4_lackingAt) (maxL := 4) (ret := (some .int)) (by decide) rfl ?_
  intro p e s m args below meth c s₁ B0 hml hv
  obtain ⟨rfl, hP, hK0⟩ := hv
  have hx := B0.exec
  have hb := B0.bytes
  have hret := B0.returns
  have hts := atoms_spec (ws := wsX4_lackingAt) B0.pre
  have hown : s.vm.findClass RX4 = some m.cls := findClass_of_methodNamed B0.named
  have hlocks := B0.notSynchronized
  have hK := hK0.1
  have hN := hK0.2
  have hP : va_P D vwCl (lt_Pg yI G pi pa gs ch) s.heap := hP
  have hl := lv_entry ([.ref (G 0), .int p0]) (n := 4) (Nat.le_of_ble_eq_true rfl)
  rw [lg_entry_eq]
  generalize (lg_sl ([.ref (G 0), .int p0]) ++ List.replicate (4 - (lg_sl ([.ref (G 0), .int p0])).length) Slot.unset).toArray = ls at hl ⊢
  have hl : lv_has ls 4 [(0, .ref (G 0)), (1, .int p0)] := hl
  refine lv_iconst (v := 0) hx hb dX4_lackingAt_0 (by decide) ?_
  refine lv_istore_n (lv' := [(2, .int 0), (0, .ref (G 0)), (1, .int p0)]) hx hb dX4_lackingAt_1 rfl hl (by decide) rfl (fun ls hl => ?_)
  refine lv_iconst (v := 0) hx hb dX4_lackingAt_2 (by decide) ?_
  refine lv_istore_n (lv' := [(3, .int 0), (2, .int 0), (0, .ref (G 0)), (1, .int p0)]) hx hb dX4_lackingAt_3 rfl hl (by decide) rfl (fun ls hl => ?_)
  refine lt_loop (σ := (Int32) × (Int32)) (fun fu (x : (Int32) × (Int32)) H locs ls => ∃ (v2 : Int32) (v3 : Int32), x = (v2, v3) ∧ lt_fu fu (pa) (v3) ∧ X4_lackingAt_L4 pi pa gs ch p0 fu v2 v3 = X4_lackingAt pi pa gs ch p0 ∧ H = s.heap ∧ locs = [] ∧ lv_has ls 4 [(3, .int v3), (2, .int v2), (0, .ref (G 0)), (1, .int p0)]) ?_ ?_ (((pa : Int32).toInt - (0 : Int32).toInt).toNat + 1) (0, 0) _ _ _ ⟨0, 0, rfl, lt_fuI _ _, (Eq.symm rfl), rfl, rfl, (lv_sub hl [0, 1, 2, 3] rfl)⟩
  · rintro x H locs ls ⟨_, _, -, hF, -⟩
    exact lt_fu0 hF
  · rintro fu ih x H locs ls ⟨v2, v3, rfl, hF, hT, rfl, rfl, hl⟩
    refine lv_iload_n hx hb dX4_lackingAt_4 rfl (lv_at hl 0 rfl) ?_
    refine lv_aload_n hx hb dX4_lackingAt_5 rfl (lv_at hl 2 rfl) ?_
    refine va_get (D := D) (ci := 4) (v := .int pa) (C := RX4) (T := TX4) (N := 4) hx hb hts iw_X4_lackingAt_4 hown hK hP 0 rfl rfl 3 (by decide) (hts (.fieldLink RX4 47 "LeafTurner$PageSet" "pages" "I") (by decide +kernel)) (fun _ h9 => h9) rfl dX4_lackingAt_6 ?_
    refine lv_icmp_ge (tgt := 41) hx hb dX4_lackingAt_9 (by decide) (fun c_9 => ?_) (fun c_9 => ?_)
    · refine lv_bipush (v := (-5)) hx hb dX4_lackingAt_41 (by decide) ?_
      exact W.iret (v := (-5)) hx hb hret (fun t ht hW => ⟨(-5), rfl, (Eq.trans (Eq.symm (Eq.trans (if_pos c_9) rfl)) hT), ht⟩) (fun _ h => absurd h List.not_mem_nil) dX4_lackingAt_43
    · refine lv_aload_n hx hb dX4_lackingAt_12 rfl (lv_at hl 2 rfl) ?_
      refine va_get (D := D) (ci := 4) (v := .ref (G 3)) (C := RX4) (T := TX4) (N := 4) hx hb hts iw_X4_lackingAt_4 hown hK hP 0 rfl rfl 1 (by decide) (hts (.fieldLink RX4 20 "LeafTurner$PageSet" "chosen" "LLeafTurner$Numbers;") (by decide +kernel)) (fun _ h9 => h9) rfl dX4_lackingAt_13 ?_
      refine lv_iload_n hx hb dX4_lackingAt_16 rfl (lv_at hl 0 rfl) ?_
      have hPc := hP.sub (ws' := lt_N2 yI (G 3) (G 4) 60 ch) [3, 4] rfl
      refine lt_cR (va_runV (As := [.int v3]) (rest := []) ⟨hx, hb, hml, hown, hts⟩ (c_X3_at l D yI yC yO (G 3) (G 4) 60 ch v3 (by decide)) (cwV 1 hts gX4_lackingAt_X3_at rfl rfl rfl (by decide +kernel) ⟨Nat.le_of_ble_eq_true rfl, Nat.le_of_ble_eq_true rfl⟩) (lt_pV hK0 hPc (va_recv hK hPc (ci := 3) (q0 := 0) rfl rfl)) rfl rfl hl.1 rfl (lv_room (Nat.le_of_ble_eq_true rfl)) dX4_lackingAt_17 ⟨Nat.zero_le _, Nat.zero_le _⟩) (fun r_17 e_r_17 => ?_)
      refine lv_bipush (v := (-5)) hx hb dX4_lackingAt_20 (by decide) ?_
      refine lv_icmp_ne (tgt := 35) hx hb dX4_lackingAt_22 (by decide) (fun c_22 => ?_) (fun c_22 => ?_)
      · refine lv_iinc (v := (v3 + 1)) (lv' := [(3, .int (v3 + 1)), (2, .int v2), (0, .ref (G 0)), (1, .int p0)]) hx hb dX4_lackingAt_35 hl (k := 0) rfl (rfl) (by decide) rfl (fun ls hl => ?_)
        refine lv_goto (tgt := 4) hx hb dX4_lackingAt_38 (by decide) ?_
        exact ih (v2, (v3 + 1)) _ _ _ ⟨v2, (v3 + 1), rfl, lt_fuS hF (lt_nle c_9), (by subst e_r_17; exact (Eq.trans (Eq.symm (Eq.trans (if_neg c_9) (Eq.trans (if_neg c_22) rfl))) hT)), rfl, rfl, lv_sub hl [0, 1, 2, 3] rfl⟩
      · refine lv_iload_n hx hb dX4_lackingAt_25 rfl (lv_at hl 1 rfl) ?_
        refine lv_iload_n hx hb dX4_lackingAt_26 rfl (lv_at hl 3 rfl) ?_
        refine lv_icmp_ne (tgt := 32) hx hb dX4_lackingAt_27 (by decide) (fun c_27 => ?_) (fun c_27 => ?_)
        · refine lv_iinc (v := (v2 + 1)) (lv' := [(2, .int (v2 + 1)), (3, .int v3), (0, .ref (G 0)), (1, .int p0)]) hx hb dX4_lackingAt_32 hl (k := 1) rfl (rfl) (by decide) rfl (fun ls hl => ?_)
          refine lv_iinc (v := (v3 + 1)) (lv' := [(3, .int (v3 + 1)), (2, .int (v2 + 1)), (0, .ref (G 0)), (1, .int p0)]) hx hb dX4_lackingAt_35 hl (k := 1) rfl (rfl) (by decide) rfl (fun ls hl => ?_)
          refine lv_goto (tgt := 4) hx hb dX4_lackingAt_38 (by decide) ?_
          exact ih ((v2 + 1), (v3 + 1)) _ _ _ ⟨(v2 + 1), (v3 + 1), rfl, lt_fuS hF (lt_nle c_9), (by subst e_r_17; exact (Eq.trans (Eq.symm (Eq.trans (if_neg c_9) (Eq.trans (if_pos c_22) (Eq.trans (if_neg c_27) rfl)))) hT)), rfl, rfl, lv_sub hl [0, 1, 2, 3] rfl⟩
        · refine lv_iload_n hx hb dX4_lackingAt_30 rfl (lv_at hl 0 rfl) ?_
          exact W.iret (v := v3) hx hb hret (fun t ht hW => ⟨v3, rfl, (by subst e_r_17; exact (Eq.trans (Eq.symm (Eq.trans (if_neg c_9) (Eq.trans (if_pos c_22) (Eq.trans (if_pos c_27) rfl)))) hT)), ht⟩) (fun _ h => absurd h List.not_mem_nil) dX4_lackingAt_31

def X4_howManyLack_L4 (pi : Int32) (pa : Int32) (gs : Nat → Int32) (ch : Nat → Int32) : Nat → (Int32) → (Int32) → Int32
  | 0, _, _ => 0
  | fu + 1, v1, v2 =>
    if pa ≤ v2 then
      v1
    else
      let r_17 := X3_at 60 ch v2
      if r_17 = (-5) then
        X4_howManyLack_L4 pi pa gs ch fu (v1 + 1) (v2 + 1)
      else
        X4_howManyLack_L4 pi pa gs ch fu v1 (v2 + 1)
def X4_howManyLack (pi : Int32) (pa : Int32) (gs : Nat → Int32) (ch : Nat → Int32) : Int32 :=
  X4_howManyLack_L4 pi pa gs ch (((pa : Int32).toInt - (0 : Int32).toInt).toNat + 1) 0 0
theorem iw_X4_howManyLack_4 : ∀ w ∈ wsX40, w ∈ wsX4_howManyLack := by decide +kernel
set_option maxHeartbeats 4000000 in
set_option maxRecDepth 100000 in
theorem c_X4_howManyLack (l : Launch) (D : va_G) (yI yC yO : ClassId) (G : Nat → Nat) (pi : Int32) (pa : Int32) (gs : Nat → Int32) (ch : Nat → Int32) : Met l yX4_howManyLack wsX4_howManyLack ({ frames := 2, cells := 0, slots := 0, locals := 60 }) (va_Pc [.ref (G 0)] (lt_R D yI yC yO (lt_Pg yI G pi pa gs ch))) (lt_Si (X4_howManyLack pi pa gs ch)) 0 0 (fun _ => False) := by
  refine Met.ofW (cc := cX4_howManyLack) (maxL := 3) (ret := (some .int)) (by decide) rfl ?_
  intro p e s m args below meth c s₁ B0 hml hv
  obtain ⟨rfl, hP, hK0⟩ := hv
  have hx := B0.exec
  have hb := B0.bytes
  have hret := B0.returns
  have hts := atoms_spec (ws := wsX4_howManyLack) B0.pre
  have hown : s.vm.findClass RX4 = some m.cls := findClass_of_methodNamed B0.named
  have hlocks := B0.notSynchronized
  have hK := hK0.1
  have hN := hK0.2
  have hP : va_P D vwCl (lt_Pg yI G pi pa gs ch) s.heap := hP
  have hl := lv_entry ([.ref (G 0)]) (n := 3) (Nat.le_of_ble_eq_true rfl)
  rw [lg_entry_eq]
  generalize (lg_sl ([.ref (G 0)]) ++ List.replicate (3 - (lg_sl ([.ref (G 0)])).length) Slot.unset).toArray = ls at hl ⊢
  have hl : lv_has ls 3 [(0, .ref (G 0))] := hl
  refine lv_iconst (v := 0) hx hb dX4_howManyLack_0 (by decide) ?_
  refine lv_istore_n (lv' := [(1, .int 0), (0, .ref (G 0))]) hx hb dX4_howManyLack_1 rfl hl (by decide) rfl (fun ls hl => ?_)
  refine lv_iconst (v := 0) hx hb dX4_howManyLack_2 (by decide) ?_
  refine lv_istore_n (lv' := [(2, .int 0), (1, .int 0), (0, .ref (G 0))]) hx hb dX4_howManyLack_3 rfl hl (by decide) rfl (fun ls hl => ?_)
  refine lt_loop (σ := (Int32) × (Int32)) (fun fu (x : (Int32) × (Int32)) H locs ls => ∃ (v1 : Int32) (v2 : Int32), x = (v1, v2) ∧ lt_fu fu (pa) (v2) ∧ X4_howManyLack_L4 pi pa gs ch fu v1 v2 = X4_howManyLack pi pa gs ch ∧ H = s.heap ∧ locs = [] ∧ lv_has ls 3 [(2, .int v2), (1, .int v1), (0, .ref (G 0))]) ?_ ?_ (((pa : Int32).toInt - (0 : Int32).toInt).toNat + 1) (0, 0) _ _ _ ⟨0, 0, rfl, lt_fuI _ _, (Eq.symm rfl), rfl, rfl, (lv_sub hl [0, 1, 2] rfl)⟩
  · rintro x H locs ls ⟨_, _, -, hF, -⟩
    exact lt_fu0 hF
  · rintro fu ih x H locs ls ⟨v1, v2, rfl, hF, hT, rfl, rfl, hl⟩
    refine lv_iload_n hx hb dX4_howManyLack_4 rfl (lv_at hl 0 rfl) ?_
    refine lv_aload_n hx hb dX4_howManyLack_5 rfl (lv_at hl 2 rfl) ?_
    refine va_get (D := D) (ci := 4) (v := .int pa) (C := RX4) (T := TX4) (N := 4) hx hb hts iw_X4_howManyLack_4 hown hK hP 0 rfl rfl 3 (by decide) (hts (.fieldLink RX4 47 "LeafTurner$PageSet" "pages" "I") (by decide +kernel)) (fun _ h9 => h9) rfl dX4_howManyLack_6 ?_
    refine lv_icmp_ge (tgt := 34) hx hb dX4_howManyLack_9 (by decide) (fun c_9 => ?_) (fun c_9 => ?_)
    · refine lv_iload_n hx hb dX4_howManyLack_34 rfl (lv_at hl 1 rfl) ?_
      exact W.iret (v := v1) hx hb hret (fun t ht hW => ⟨v1, rfl, (Eq.trans (Eq.symm (Eq.trans (if_pos c_9) rfl)) hT), ht⟩) (fun _ h => absurd h List.not_mem_nil) dX4_howManyLack_35
    · refine lv_aload_n hx hb dX4_howManyLack_12 rfl (lv_at hl 2 rfl) ?_
      refine va_get (D := D) (ci := 4) (v := .ref (G 3)) (C := RX4) (T := TX4) (N := 4) hx hb hts iw_X4_howManyLack_4 hown hK hP 0 rfl rfl 1 (by decide) (hts (.fieldLink RX4 20 "LeafTurner$PageSet" "chosen" "LLeafTurner$Numbers;") (by decide +kernel)) (fun _ h9 => h9) rfl dX4_howManyLack_13 ?_
      refine lv_iload_n hx hb dX4_howManyLack_16 rfl (lv_at hl 0 rfl) ?_
      have hPc := hP.sub (ws' := lt_N2 yI (G 3) (G 4) 60 ch) [3, 4] rfl
      refine lt_cR (va_runV (As := [.int v2]) (rest := []) ⟨hx, hb, hml, hown, hts⟩ (c_X3_at l D yI yC yO (G 3) (G 4) 60 ch v2 (by decide)) (cwV 1 hts gX4_howManyLack_X3_at rfl rfl rfl (by decide +kernel) ⟨Nat.le_of_ble_eq_true rfl, Nat.le_of_ble_eq_true rfl⟩) (lt_pV hK0 hPc (va_recv hK hPc (ci := 3) (q0 := 0) rfl rfl)) rfl rfl hl.1 rfl (lv_room (Nat.le_of_ble_eq_true rfl)) dX4_howManyLack_17 ⟨Nat.zero_le _, Nat.zero_le _⟩) (fun r_17 e_r_17 => ?_)
      refine lv_bipush (v := (-5)) hx hb dX4_howManyLack_20 (by decide) ?_
      refine lv_icmp_ne (tgt := 28) hx hb dX4_howManyLack_22 (by decide) (fun c_22 => ?_) (fun c_22 => ?_)
      · refine lv_iinc (v := (v2 + 1)) (lv' := [(2, .int (v2 + 1)), (1, .int v1), (0, .ref (G 0))]) hx hb dX4_howManyLack_28 hl (k := 0) rfl (rfl) (by decide) rfl (fun ls hl => ?_)
        refine lv_goto (tgt := 4) hx hb dX4_howManyLack_31 (by decide) ?_
        exact ih (v1, (v2 + 1)) _ _ _ ⟨v1, (v2 + 1), rfl, lt_fuS hF (lt_nle c_9), (by subst e_r_17; exact (Eq.trans (Eq.symm (Eq.trans (if_neg c_9) (Eq.trans (if_neg c_22) rfl))) hT)), rfl, rfl, lv_sub hl [0, 1, 2] rfl⟩
      · refine lv_iinc (v := (v1 + 1)) (lv' := [(1, .int (v1 + 1)), (2, .int v2), (0, .ref (G 0))]) hx hb dX4_howManyLack_25 hl (k := 1) rfl (rfl) (by decide) rfl (fun ls hl => ?_)
        refine lv_iinc (v := (v2 + 1)) (lv' := [(2, .int (v2 + 1)), (1, .int (v1 + 1)), (0, .ref (G 0))]) hx hb dX4_howManyLack_28 hl (k := 1) rfl (rfl) (by decide) rfl (fun ls hl => ?_)
        refine lv_goto (tgt := 4) hx hb dX4_howManyLack_31 (by decide) ?_
        exact ih ((v1 + 1), (v2 + 1)) _ _ _ ⟨(v1 + 1), (v2 + 1), rfl, lt_fuS hF (lt_nle c_9), (by subst e_r_17; exact (Eq.trans (Eq.symm (Eq.trans (if_neg c_9) (Eq.trans (if_pos c_22) rfl))) hT)), rfl, rfl, lv_sub hl [0, 1, 2] rfl⟩

def X4_howManyDoubtful_L4 (pi : Int32) (pa : Int32) (gs : Nat → Int32) (ch : Nat → Int32) (z' : Int32) (pg' : Nat → Int32) (nu' : Nat → Int32) (gu' : Nat → Int32) (pr' : Nat → Int32) : Nat → (Int32) → (Int32) → Int32
  | 0, _, _ => 0
  | fu + 1, v2, v3 =>
    if pa ≤ v3 then
      v2
    else
      let r_15 := X4_isDoubtful pi pa gs ch z' pg' nu' gu' pr' v3
      if r_15 = 0 then
        X4_howManyDoubtful_L4 pi pa gs ch z' pg' nu' gu' pr' fu v2 (v3 + 1)
      else
        X4_howManyDoubtful_L4 pi pa gs ch z' pg' nu' gu' pr' fu (v2 + 1) (v3 + 1)
def X4_howManyDoubtful (pi : Int32) (pa : Int32) (gs : Nat → Int32) (ch : Nat → Int32) (z' : Int32) (pg' : Nat → Int32) (nu' : Nat → Int32) (gu' : Nat → Int32) (pr' : Nat → Int32) : Int32 :=
  X4_howManyDoubtful_L4 pi pa gs ch z' pg' nu' gu' pr' (((pa : Int32).toInt - (0 : Int32).toInt).toNat + 1) 0 0
theorem iw_X4_howManyDoubtful_4 : ∀ w ∈ wsX40, w ∈ wsX4_howManyDoubtful := by decide +kernel
set_option maxHeartbeats 4000000 in
set_option maxRecDepth 100000 in
theorem c_X4_howManyDoubtful (l : Launch) (D : va_G) (yI yC yO : ClassId) (G : Nat → Nat) (B' : Nat → Nat) (pi : Int32) (pa : Int32) (gs : Nat → Int32) (ch : Nat → Int32) (z' : Int32) (pg' : Nat → Int32) (nu' : Nat → Int32) (gu' : Nat → Int32) (pr' : Nat → Int32) : Met l yX4_howManyDoubtful wsX4_howManyDoubtful ({ frames := 3, cells := 0, slots := 0, locals := 90 }) (va_Pc [.ref (G 0), .ref (B' 8)] (lt_R D yI yC yO (lt_Pg yI G pi pa gs ch ++ lt_Ps yI B' z' pg' nu' gu' pr'))) (lt_Si (X4_howManyDoubtful pi pa gs ch z' pg' nu' gu' pr')) 0 0 (fun _ => False) := by
  refine Met.ofW (cc := cX4_howManyDoubtful) (maxL := 4) (ret := (some .int)) (by decide) rfl ?_
  intro p e s m args below meth c s₁ B0 hml hv
  obtain ⟨rfl, hP, hK0⟩ := hv
  have hx := B0.exec
  have hb := B0.bytes
  have hret := B0.returns
  have hts := atoms_spec (ws := wsX4_howManyDoubtful) B0.pre
  have hown : s.vm.findClass RX4 = some m.cls := findClass_of_methodNamed B0.named
  have hlocks := B0.notSynchronized
  have hK := hK0.1
  have hN := hK0.2
  have hP : va_P D vwCl (lt_Pg yI G pi pa gs ch ++ lt_Ps yI B' z' pg' nu' gu' pr') s.heap := hP
  have hl := lv_entry ([.ref (G 0), .ref (B' 8)]) (n := 4) (Nat.le_of_ble_eq_true rfl)
  rw [lg_entry_eq]
  generalize (lg_sl ([.ref (G 0), .ref (B' 8)]) ++ List.replicate (4 - (lg_sl ([.ref (G 0), .ref (B' 8)])).length) Slot.unset).toArray = ls at hl ⊢
  have hl : lv_has ls 4 [(0, .ref (G 0)), (1, .ref (B' 8))] := hl
  refine lv_iconst (v := 0) hx hb dX4_howManyDoubtful_0 (by decide) ?_
  refine lv_istore_n (lv' := [(2, .int 0), (0, .ref (G 0)), (1, .ref (B' 8))]) hx hb dX4_howManyDoubtful_1 rfl hl (by decide) rfl (fun ls hl => ?_)
  refine lv_iconst (v := 0) hx hb dX4_howManyDoubtful_2 (by decide) ?_
  refine lv_istore_n (lv' := [(3, .int 0), (2, .int 0), (0, .ref (G 0)), (1, .ref (B' 8))]) hx hb dX4_howManyDoubtful_3 rfl hl (by decide) rfl (fun ls hl => ?_)
  refine lt_loop (σ := (Int32) × (Int32)) (fun fu (x : (Int32) × (Int32)) H locs ls => ∃ (v2 : Int32) (v3 : Int32), x = (v2, v3) ∧ lt_fu fu (pa) (v3) ∧ X4_howManyDoubtful_L4 pi pa gs ch z' pg' nu' gu' pr' fu v2 v3 = X4_howManyDoubtful pi pa gs ch z' pg' nu' gu' pr' ∧ H = s.heap ∧ locs = [] ∧ lv_has ls 4 [(3, .int v3), (2, .int v2), (0, .ref (G 0)), (1, .ref (B' 8))]) ?_ ?_ (((pa : Int32).toInt - (0 : Int32).toInt).toNat + 1) (0, 0) _ _ _ ⟨0, 0, rfl, lt_fuI _ _, (Eq.symm rfl), rfl, rfl, (lv_sub hl [0, 1, 2, 3] rfl)⟩
  · rintro x H locs ls ⟨_, _, -, hF, -⟩
    exact lt_fu0 hF
  · rintro fu ih x H locs ls ⟨v2, v3, rfl, hF, hT, rfl, rfl, hl⟩
    refine lv_iload_n hx hb dX4_howManyDoubtful_4 rfl (lv_at hl 0 rfl) ?_
    refine lv_aload_n hx hb dX4_howManyDoubtful_5 rfl (lv_at hl 2 rfl) ?_
    refine va_get (D := D) (ci := 4) (v := .int pa) (C := RX4) (T := TX4) (N := 4) hx hb hts iw_X4_howManyDoubtful_4 hown hK hP 0 rfl rfl 3 (by decide) (hts (.fieldLink RX4 47 "LeafTurner$PageSet" "pages" "I") (by decide +kernel)) (fun _ h9 => h9) rfl dX4_howManyDoubtful_6 ?_
    refine lv_icmp_ge (tgt := 30) hx hb dX4_howManyDoubtful_9 (by decide) (fun c_9 => ?_) (fun c_9 => ?_)
    · refine lv_iload_n hx hb dX4_howManyDoubtful_30 rfl (lv_at hl 1 rfl) ?_
      exact W.iret (v := v2) hx hb hret (fun t ht hW => ⟨v2, rfl, (Eq.trans (Eq.symm (Eq.trans (if_pos c_9) rfl)) hT), ht⟩) (fun _ h => absurd h List.not_mem_nil) dX4_howManyDoubtful_31
    · refine lv_aload_n hx hb dX4_howManyDoubtful_12 rfl (lv_at hl 2 rfl) ?_
      refine lv_iload_n hx hb dX4_howManyDoubtful_13 rfl (lv_at hl 0 rfl) ?_
      refine lv_aload_n hx hb dX4_howManyDoubtful_14 rfl (lv_at hl 3 rfl) ?_
      have hPc := hP.sub (ws' := lt_Pg yI G pi pa gs ch ++ lt_Ps yI B' z' pg' nu' gu' pr') [0, 1, 2, 3, 4, 5, 6, 7, 8, 9, 10, 11, 12, 13] rfl
      refine lt_cR (va_runV (As := [.int v3, .ref (B' 8)]) (rest := []) ⟨hx, hb, hml, hown, hts⟩ (c_X4_isDoubtful l D yI yC yO G B' pi pa gs ch z' pg' nu' gu' pr' v3 ) (cwV 2 hts gX4_howManyDoubtful_X4_isDoubtful rfl rfl rfl (by decide +kernel) ⟨Nat.le_of_ble_eq_true rfl, Nat.le_of_ble_eq_true rfl⟩) (lt_pV hK0 hPc (va_recv hK hPc (ci := 4) (q0 := 0) rfl rfl)) rfl rfl hl.1 rfl (lv_room (Nat.le_of_ble_eq_true rfl)) dX4_howManyDoubtful_15 ⟨Nat.zero_le _, Nat.zero_le _⟩) (fun r_15 e_r_15 => ?_)
      refine lv_if_eq (tgt := 24) hx hb dX4_howManyDoubtful_18 (by decide) (fun c_18 => ?_) (fun c_18 => ?_)
      · refine lv_iinc (v := (v3 + 1)) (lv' := [(3, .int (v3 + 1)), (2, .int v2), (0, .ref (G 0)), (1, .ref (B' 8))]) hx hb dX4_howManyDoubtful_24 hl (k := 0) rfl (rfl) (by decide) rfl (fun ls hl => ?_)
        refine lv_goto (tgt := 4) hx hb dX4_howManyDoubtful_27 (by decide) ?_
        exact ih (v2, (v3 + 1)) _ _ _ ⟨v2, (v3 + 1), rfl, lt_fuS hF (lt_nle c_9), (by subst e_r_15; exact (Eq.trans (Eq.symm (Eq.trans (if_neg c_9) (Eq.trans (if_pos c_18) rfl))) hT)), rfl, rfl, lv_sub hl [0, 1, 2, 3] rfl⟩
      · refine lv_iinc (v := (v2 + 1)) (lv' := [(2, .int (v2 + 1)), (3, .int v3), (0, .ref (G 0)), (1, .ref (B' 8))]) hx hb dX4_howManyDoubtful_21 hl (k := 1) rfl (rfl) (by decide) rfl (fun ls hl => ?_)
        refine lv_iinc (v := (v3 + 1)) (lv' := [(3, .int (v3 + 1)), (2, .int (v2 + 1)), (0, .ref (G 0)), (1, .ref (B' 8))]) hx hb dX4_howManyDoubtful_24 hl (k := 1) rfl (rfl) (by decide) rfl (fun ls hl => ?_)
        refine lv_goto (tgt := 4) hx hb dX4_howManyDoubtful_27 (by decide) ?_
        exact ih ((v2 + 1), (v3 + 1)) _ _ _ ⟨(v2 + 1), (v3 + 1), rfl, lt_fuS hF (lt_nle c_9), (by subst e_r_15; exact (Eq.trans (Eq.symm (Eq.trans (if_neg c_9) (Eq.trans (if_neg c_18) rfl))) hT)), rfl, rfl, lv_sub hl [0, 1, 2, 3] rfl⟩

def X4_howManySpare_L4 (pi : Int32) (pa : Int32) (gs : Nat → Int32) (ch : Nat → Int32) : Nat → (Int32) → (Int32) → Int32
  | 0, _, _ => 0
  | fu + 1, v1, v2 =>
    if pi ≤ v2 then
      v1
    else
      let r_14 := X4_isSpare pi pa gs ch v2
      if r_14 = 0 then
        X4_howManySpare_L4 pi pa gs ch fu v1 (v2 + 1)
      else
        X4_howManySpare_L4 pi pa gs ch fu (v1 + 1) (v2 + 1)
def X4_howManySpare (pi : Int32) (pa : Int32) (gs : Nat → Int32) (ch : Nat → Int32) : Int32 :=
  X4_howManySpare_L4 pi pa gs ch (((pi : Int32).toInt - (0 : Int32).toInt).toNat + 1) 0 0
theorem iw_X4_howManySpare_4 : ∀ w ∈ wsX40, w ∈ wsX4_howManySpare := by decide +kernel
set_option maxHeartbeats 4000000 in
set_option maxRecDepth 100000 in
theorem c_X4_howManySpare (l : Launch) (D : va_G) (yI yC yO : ClassId) (G : Nat → Nat) (pi : Int32) (pa : Int32) (gs : Nat → Int32) (ch : Nat → Int32) : Met l yX4_howManySpare wsX4_howManySpare ({ frames := 3, cells := 0, slots := 0, locals := 90 }) (va_Pc [.ref (G 0)] (lt_R D yI yC yO (lt_Pg yI G pi pa gs ch))) (lt_Si (X4_howManySpare pi pa gs ch)) 0 0 (fun _ => False) := by
  refine Met.ofW (cc := cX4_howManySpare) (maxL := 3) (ret := (some .int)) (by decide) rfl ?_
  intro p e s m args below meth c s₁ B0 hml hv
  obtain ⟨rfl, hP, hK0⟩ := hv
  have hx := B0.exec
  have hb := B0.bytes
  have hret := B0.returns
  have hts := atoms_spec (ws := wsX4_howManySpare) B0.pre
  have hown : s.vm.findClass RX4 = some m.cls := findClass_of_methodNamed B0.named
  have hlocks := B0.notSynchronized
  have hK := hK0.1
  have hN := hK0.2
  have hP : va_P D vwCl (lt_Pg yI G pi pa gs ch) s.heap := hP
  have hl := lv_entry ([.ref (G 0)]) (n := 3) (Nat.le_of_ble_eq_true rfl)
  rw [lg_entry_eq]
  generalize (lg_sl ([.ref (G 0)]) ++ List.replicate (3 - (lg_sl ([.ref (G 0)])).length) Slot.unset).toArray = ls at hl ⊢
  have hl : lv_has ls 3 [(0, .ref (G 0))] := hl
  refine lv_iconst (v := 0) hx hb dX4_howManySpare_0 (by decide) ?_
  refine lv_istore_n (lv' := [(1, .int 0), (0, .ref (G 0))]) hx hb dX4_howManySpare_1 rfl hl (by decide) rfl (fun ls hl => ?_)
  refine lv_iconst (v := 0) hx hb dX4_howManySpare_2 (by decide) ?_
  refine lv_istore_n (lv' := [(2, .int 0), (1, .int 0), (0, .ref (G 0))]) hx hb dX4_howManySpare_3 rfl hl (by decide) rfl (fun ls hl => ?_)
  refine lt_loop (σ := (Int32) × (Int32)) (fun fu (x : (Int32) × (Int32)) H locs ls => ∃ (v1 : Int32) (v2 : Int32), x = (v1, v2) ∧ lt_fu fu (pi) (v2) ∧ X4_howManySpare_L4 pi pa gs ch fu v1 v2 = X4_howManySpare pi pa gs ch ∧ H = s.heap ∧ locs = [] ∧ lv_has ls 3 [(2, .int v2), (1, .int v1), (0, .ref (G 0))]) ?_ ?_ (((pi : Int32).toInt - (0 : Int32).toInt).toNat + 1) (0, 0) _ _ _ ⟨0, 0, rfl, lt_fuI _ _, (Eq.symm rfl), rfl, rfl, (lv_sub hl [0, 1, 2] rfl)⟩
  · rintro x H locs ls ⟨_, _, -, hF, -⟩
    exact lt_fu0 hF
  · rintro fu ih x H locs ls ⟨v1, v2, rfl, hF, hT, rfl, rfl, hl⟩
    refine lv_iload_n hx hb dX4_howManySpare_4 rfl (lv_at hl 0 rfl) ?_
    refine lv_aload_n hx hb dX4_howManySpare_5 rfl (lv_at hl 2 rfl) ?_
    refine va_get (D := D) (ci := 4) (v := .int pi) (C := RX4) (T := TX4) (N := 4) hx hb hts iw_X4_howManySpare_4 hown hK hP 0 rfl rfl 2 (by decide) (hts (.fieldLink RX4 35 "LeafTurner$PageSet" "pictures" "I") (by decide +kernel)) (fun _ h9 => h9) rfl dX4_howManySpare_6 ?_
    refine lv_icmp_ge (tgt := 29) hx hb dX4_howManySpare_9 (by decide) (fun c_9 => ?_) (fun c_9 => ?_)
    · refine lv_iload_n hx hb dX4_howManySpare_29 rfl (lv_at hl 1 rfl) ?_
      exact W.iret (v := v1) hx hb hret (fun t ht hW => ⟨v1, rfl, (Eq.trans (Eq.symm (Eq.trans (if_pos c_9) rfl)) hT), ht⟩) (fun _ h => absurd h List.not_mem_nil) dX4_howManySpare_30
    · refine lv_aload_n hx hb dX4_howManySpare_12 rfl (lv_at hl 2 rfl) ?_
      refine lv_iload_n hx hb dX4_howManySpare_13 rfl (lv_at hl 0 rfl) ?_
      have hPc := hP.sub (ws' := lt_Pg yI G pi pa gs ch) [0, 1, 2, 3, 4] rfl
      refine lt_cR (va_runV (As := [.int v2]) (rest := []) ⟨hx, hb, hml, hown, hts⟩ (c_X4_isSpare l D yI yC yO G pi pa gs ch v2 ) (cwV 1 hts gX4_howManySpare_X4_isSpare rfl rfl rfl (by decide +kernel) ⟨Nat.le_of_ble_eq_true rfl, Nat.le_of_ble_eq_true rfl⟩) (lt_pV hK0 hPc (va_recv hK hPc (ci := 4) (q0 := 0) rfl rfl)) rfl rfl hl.1 rfl (lv_room (Nat.le_of_ble_eq_true rfl)) dX4_howManySpare_14 ⟨Nat.zero_le _, Nat.zero_le _⟩) (fun r_14 e_r_14 => ?_)
      refine lv_if_eq (tgt := 23) hx hb dX4_howManySpare_17 (by decide) (fun c_17 => ?_) (fun c_17 => ?_)
      · refine lv_iinc (v := (v2 + 1)) (lv' := [(2, .int (v2 + 1)), (1, .int v1), (0, .ref (G 0))]) hx hb dX4_howManySpare_23 hl (k := 0) rfl (rfl) (by decide) rfl (fun ls hl => ?_)
        refine lv_goto (tgt := 4) hx hb dX4_howManySpare_26 (by decide) ?_
        exact ih (v1, (v2 + 1)) _ _ _ ⟨v1, (v2 + 1), rfl, lt_fuS hF (lt_nle c_9), (by subst e_r_14; exact (Eq.trans (Eq.symm (Eq.trans (if_neg c_9) (Eq.trans (if_pos c_17) rfl))) hT)), rfl, rfl, lv_sub hl [0, 1, 2] rfl⟩
      · refine lv_iinc (v := (v1 + 1)) (lv' := [(1, .int (v1 + 1)), (2, .int v2), (0, .ref (G 0))]) hx hb dX4_howManySpare_20 hl (k := 1) rfl (rfl) (by decide) rfl (fun ls hl => ?_)
        refine lv_iinc (v := (v2 + 1)) (lv' := [(2, .int (v2 + 1)), (1, .int (v1 + 1)), (0, .ref (G 0))]) hx hb dX4_howManySpare_23 hl (k := 1) rfl (rfl) (by decide) rfl (fun ls hl => ?_)
        refine lv_goto (tgt := 4) hx hb dX4_howManySpare_26 (by decide) ?_
        exact ih ((v1 + 1), (v2 + 1)) _ _ _ ⟨(v1 + 1), (v2 + 1), rfl, lt_fuS hF (lt_nle c_9), (by subst e_r_14; exact (Eq.trans (Eq.symm (Eq.trans (if_neg c_9) (Eq.trans (if_neg c_17) rfl))) hT)), rfl, rfl, lv_sub hl [0, 1, 2] rfl⟩

def X4_howManyNotGuessed_L4 (pi : Int32) (pa : Int32) (gs : Nat → Int32) (ch : Nat → Int32) : Nat → (Int32) → (Int32) → Int32
  | 0, _, _ => 0
  | fu + 1, v1, v2 =>
    if pi ≤ v2 then
      v1
    else
      let r_17 := X3_at 80 gs v2
      if r_17 = (-5) then
        X4_howManyNotGuessed_L4 pi pa gs ch fu (v1 + 1) (v2 + 1)
      else
        X4_howManyNotGuessed_L4 pi pa gs ch fu v1 (v2 + 1)
def X4_howManyNotGuessed (pi : Int32) (pa : Int32) (gs : Nat → Int32) (ch : Nat → Int32) : Int32 :=
  X4_howManyNotGuessed_L4 pi pa gs ch (((pi : Int32).toInt - (0 : Int32).toInt).toNat + 1) 0 0
theorem iw_X4_howManyNotGuessed_4 : ∀ w ∈ wsX40, w ∈ wsX4_howManyNotGuessed := by decide +kernel
set_option maxHeartbeats 4000000 in
set_option maxRecDepth 100000 in
theorem c_X4_howManyNotGuessed (l : Launch) (D : va_G) (yI yC yO : ClassId) (G : Nat → Nat) (pi : Int32) (pa : Int32) (gs : Nat → Int32) (ch : Nat → Int32) : Met l yX4_howManyNotGuessed wsX4_howManyNotGuessed ({ frames := 2, cells := 0, slots := 0, locals := 60 }) (va_Pc [.ref (G 0)] (lt_R D yI yC yO (lt_Pg yI G pi pa gs ch))) (lt_Si (X4_howManyNotGuessed pi pa gs ch)) 0 0 (fun _ => False) := by
  refine Met.ofW (cc := cX4_howManyNotGuessed) (maxL := 3) (ret := (some .int)) (by decide) rfl ?_
  intro p e s m args below meth c s₁ B0 hml hv
  obtain ⟨rfl, hP, hK0⟩ := hv
  have hx := B0.exec
  have hb := B0.bytes
  have hret := B0.returns
  have hts := atoms_spec (ws := wsX4_howManyNotGuessed) B0.pre
  have hown : s.vm.findClass RX4 = some m.cls := findClass_of_methodNamed B0.named
  have hlocks := B0.notSynchronized
  have hK := hK0.1
  have hN := hK0.2
  have hP : va_P D vwCl (lt_Pg yI G pi pa gs ch) s.heap := hP
  have hl := lv_entry ([.ref (G 0)]) (n := 3) (Nat.le_of_ble_eq_true rfl)
  rw [lg_entry_eq]
  generalize (lg_sl ([.ref (G 0)]) ++ List.replicate (3 - (lg_sl ([.ref (G 0)])).length) Slot.unset).toArray = ls at hl ⊢
  have hl : lv_has ls 3 [(0, .ref (G 0))] := hl
  refine lv_iconst (v := 0) hx hb dX4_howManyNotGuessed_0 (by decide) ?_
  refine lv_istore_n (lv' := [(1, .int 0), (0, .ref (G 0))]) hx hb dX4_howManyNotGuessed_1 rfl hl (by decide) rfl (fun ls hl => ?_)
  refine lv_iconst (v := 0) hx hb dX4_howManyNotGuessed_2 (by decide) ?_
  refine lv_istore_n (lv' := [(2, .int 0), (1, .int 0), (0, .ref (G 0))]) hx hb dX4_howManyNotGuessed_3 rfl hl (by decide) rfl (fun ls hl => ?_)
  refine lt_loop (σ := (Int32) × (Int32)) (fun fu (x : (Int32) × (Int32)) H locs ls => ∃ (v1 : Int32) (v2 : Int32), x = (v1, v2) ∧ lt_fu fu (pi) (v2) ∧ X4_howManyNotGuessed_L4 pi pa gs ch fu v1 v2 = X4_howManyNotGuessed pi pa gs ch ∧ H = s.heap ∧ locs = [] ∧ lv_has ls 3 [(2, .int v2), (1, .int v1), (0, .ref (G 0))]) ?_ ?_ (((pi : Int32).toInt - (0 : Int32).toInt).toNat + 1) (0, 0) _ _ _ ⟨0, 0, rfl, lt_fuI _ _, (Eq.symm rfl), rfl, rfl, (lv_sub hl [0, 1, 2] rfl)⟩
  · rintro x H locs ls ⟨_, _, -, hF, -⟩
    exact lt_fu0 hF
  · rintro fu ih x H locs ls ⟨v1, v2, rfl, hF, hT, rfl, rfl, hl⟩
    refine lv_iload_n hx hb dX4_howManyNotGuessed_4 rfl (lv_at hl 0 rfl) ?_
    refine lv_aload_n hx hb dX4_howManyNotGuessed_5 rfl (lv_at hl 2 rfl) ?_
    refine va_get (D := D) (ci := 4) (v := .int pi) (C := RX4) (T := TX4) (N := 4) hx hb hts iw_X4_howManyNotGuessed_4 hown hK hP 0 rfl rfl 2 (by decide) (hts (.fieldLink RX4 35 "LeafTurner$PageSet" "pictures" "I") (by decide +kernel)) (fun _ h9 => h9) rfl dX4_howManyNotGuessed_6 ?_
    refine lv_icmp_ge (tgt := 34) hx hb dX4_howManyNotGuessed_9 (by decide) (fun c_9 => ?_) (fun c_9 => ?_)
    · refine lv_iload_n hx hb dX4_howManyNotGuessed_34 rfl (lv_at hl 1 rfl) ?_
      exact W.iret (v := v1) hx hb hret (fun t ht hW => ⟨v1, rfl, (Eq.trans (Eq.symm (Eq.trans (if_pos c_9) rfl)) hT), ht⟩) (fun _ h => absurd h List.not_mem_nil) dX4_howManyNotGuessed_35
    · refine lv_aload_n hx hb dX4_howManyNotGuessed_12 rfl (lv_at hl 2 rfl) ?_
      refine va_get (D := D) (ci := 4) (v := .ref (G 1)) (C := RX4) (T := TX4) (N := 4) hx hb hts iw_X4_howManyNotGuessed_4 hown hK hP 0 rfl rfl 0 (by decide) (hts (.fieldLink RX4 14 "LeafTurner$PageSet" "guesses" "LLeafTurner$Numbers;") (by decide +kernel)) (fun _ h9 => h9) rfl dX4_howManyNotGuessed_13 ?_
      refine lv_iload_n hx hb dX4_howManyNotGuessed_16 rfl (lv_at hl 0 rfl) ?_
      have hPc := hP.sub (ws' := lt_N2 yI (G 1) (G 2) 80 gs) [1, 2] rfl
      refine lt_cR (va_runV (As := [.int v2]) (rest := []) ⟨hx, hb, hml, hown, hts⟩ (c_X3_at l D yI yC yO (G 1) (G 2) 80 gs v2 (by decide)) (cwV 1 hts gX4_howManyNotGuessed_X3_at rfl rfl rfl (by decide +kernel) ⟨Nat.le_of_ble_eq_true rfl, Nat.le_of_ble_eq_true rfl⟩) (lt_pV hK0 hPc (va_recv hK hPc (ci := 3) (q0 := 0) rfl rfl)) rfl rfl hl.1 rfl (lv_room (Nat.le_of_ble_eq_true rfl)) dX4_howManyNotGuessed_17 ⟨Nat.zero_le _, Nat.zero_le _⟩) (fun r_17 e_r_17 => ?_)
      refine lv_bipush (v := (-5)) hx hb dX4_howManyNotGuessed_20 (by decide) ?_
      refine lv_icmp_ne (tgt := 28) hx hb dX4_howManyNotGuessed_22 (by decide) (fun c_22 => ?_) (fun c_22 => ?_)
      · refine lv_iinc (v := (v2 + 1)) (lv' := [(2, .int (v2 + 1)), (1, .int v1), (0, .ref (G 0))]) hx hb dX4_howManyNotGuessed_28 hl (k := 0) rfl (rfl) (by decide) rfl (fun ls hl => ?_)
        refine lv_goto (tgt := 4) hx hb dX4_howManyNotGuessed_31 (by decide) ?_
        exact ih (v1, (v2 + 1)) _ _ _ ⟨v1, (v2 + 1), rfl, lt_fuS hF (lt_nle c_9), (by subst e_r_17; exact (Eq.trans (Eq.symm (Eq.trans (if_neg c_9) (Eq.trans (if_neg c_22) rfl))) hT)), rfl, rfl, lv_sub hl [0, 1, 2] rfl⟩
      · refine lv_iinc (v := (v1 + 1)) (lv' := [(1, .int (v1 + 1)), (2, .int v2), (0, .ref (G 0))]) hx hb dX4_howManyNotGuessed_25 hl (k := 1) rfl (rfl) (by decide) rfl (fun ls hl => ?_)
        refine lv_iinc (v := (v2 + 1)) (lv' := [(2, .int (v2 + 1)), (1, .int (v1 + 1)), (0, .ref (G 0))]) hx hb dX4_howManyNotGuessed_28 hl (k := 1) rfl (rfl) (by decide) rfl (fun ls hl => ?_)
        refine lv_goto (tgt := 4) hx hb dX4_howManyNotGuessed_31 (by decide) ?_
        exact ih ((v1 + 1), (v2 + 1)) _ _ _ ⟨(v1 + 1), (v2 + 1), rfl, lt_fuS hF (lt_nle c_9), (by subst e_r_17; exact (Eq.trans (Eq.symm (Eq.trans (if_neg c_9) (Eq.trans (if_pos c_22) rfl))) hT)), rfl, rfl, lv_sub hl [0, 1, 2] rfl⟩
