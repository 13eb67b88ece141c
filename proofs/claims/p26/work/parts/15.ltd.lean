def X7_lacking (hs_ : Int32) (i0 : Nat → Int32) (a0 : Nat → Nat → Int32) (pi : Int32) (pa : Int32) (gs : Nat → Int32) (ch : Nat → Int32) (p0 : Int32) : Int32 × ((Int32) × (Int32) × (Nat → Int32) × (Nat → Int32)) :=
  if 0 ≤ p0 then
    let x_15 := X4_makeFor pi pa gs ch i0 a0
    let r_23 := X4_lackingAt x_15.1 x_15.2.1 x_15.2.2.1 x_15.2.2.2 p0
    (r_23, (x_15.1, x_15.2.1, x_15.2.2.1, x_15.2.2.2))
  else
    ((-2), (pi, pa, gs, ch))
theorem iw_X7_lacking_7 : ∀ w ∈ wsX70, w ∈ wsX7_lacking := by decide +kernel
set_option maxHeartbeats 4000000 in
set_option maxRecDepth 100000 in
theorem c_X7_lacking (l : Launch) (D : va_G) (yI yC yO : ClassId) (h : Nat) (B0_ : Nat → Nat) (B1_ : Nat → Nat) (B2_ : Nat → Nat) (G : Nat → Nat) (Tx : Nat → Nat) (Pg : Nat → Nat) (hs_ : Int32) (i0 : Nat → Int32) (a0 : Nat → Nat → Int32) (pi : Int32) (pa : Int32) (gs : Nat → Int32) (ch : Nat → Int32) (p0 : Int32) (sz : Nat) : Met l yX7_lacking wsX7_lacking ({ frames := 5, cells := 0, slots := 0, locals := 150 }) (va_Pc [.ref h, .int p0] (lt_M D yI yC yO (lt_Lt h B0_ B1_ B2_ G Tx Pg hs_ ++ (lt_St yI B0_ i0 a0 ++ lt_Pg yI Pg pi pa gs ch)) sz)) (lt_Qi D (X7_lacking hs_ i0 a0 pi pa gs ch p0) (fun u => lt_Lt h B0_ B1_ B2_ G Tx Pg hs_ ++ (lt_St yI B0_ i0 a0 ++ lt_Pg yI Pg u.1 u.2.1 u.2.2.1 u.2.2.2)) (va_A (lt_Lt h B0_ B1_ B2_ G Tx Pg hs_ ++ (lt_St yI B0_ i0 a0 ++ lt_Pg yI Pg pi pa gs ch)) sz)) 0 0 (va_A (lt_Lt h B0_ B1_ B2_ G Tx Pg hs_ ++ (lt_St yI B0_ i0 a0 ++ lt_Pg yI Pg pi pa gs ch)) sz) := by
  refine Met.ofW (cc := cX7_lacking) (maxL := 2) (ret := (some .int)) (by decide) rfl ?_
  intro p e s m args below meth c s₁ B0 hml hv
  obtain ⟨rfl, hsz, hP, hK0, hD0⟩ := hv
  have hx := B0.exec
  have hb := B0.bytes
  have hret := B0.returns
  have hts := atoms_spec (ws := wsX7_lacking) B0.pre
  have hown : s.vm.findClass RX7 = some m.cls := findClass_of_methodNamed B0.named
  have hlocks := B0.notSynchronized
  have hK := hK0.1
  have hN := hK0.2
  subst hsz
  have hD := hD0.self (sz := s.heap.size)
  generalize hAe : va_A (lt_Lt h B0_ B1_ B2_ G Tx Pg hs_ ++ (lt_St yI B0_ i0 a0 ++ lt_Pg yI Pg pi pa gs ch)) s.heap.size = A at hD ⊢
  have hA : ∀ q : Nat, s.heap.size ≤ q → A q := fun q h => by rw [← hAe]; exact Or.inr h
  have hS : va_S A s.heap s.heap [] := va_S.rf
  have hP : va_P D vwCl (lt_Lt h B0_ B1_ B2_ G Tx Pg hs_ ++ (lt_St yI B0_ i0 a0 ++ lt_Pg yI Pg pi pa gs ch)) s.heap := hP
  have hD : va_D A (lt_Lt h B0_ B1_ B2_ G Tx Pg hs_ ++ (lt_St yI B0_ i0 a0 ++ lt_Pg yI Pg pi pa gs ch)) := hD
  have hl := lv_entry ([.ref h, .int p0]) (n := 2) (Nat.le_of_ble_eq_true rfl)
  rw [lg_entry_eq]
  generalize (lg_sl ([.ref h, .int p0]) ++ List.replicate (2 - (lg_sl ([.ref h, .int p0])).length) Slot.unset).toArray = ls at hl ⊢
  have hl : lv_has ls 2 [(0, .ref h), (1, .int p0)] := hl
  refine lv_iload_n hx hb dX7_lacking_0 rfl (lv_at hl 1 rfl) ?_
  refine lv_if_ge (tgt := 7) hx hb dX7_lacking_1 (by decide) (fun c_1 => ?_) (fun c_1 => ?_)
  · refine lv_aload_n hx hb dX7_lacking_7 rfl (lv_at hl 0 rfl) ?_
    refine va_get (D := D) (ci := 7) (v := .ref (Pg 0)) (C := RX7) (T := TX7) (N := 7) hx hb hts iw_X7_lacking_7 hown hK hP 0 rfl rfl 5 (by decide) (hts (.fieldLink RX7 39 "LeafTurner" "pageSet" "LLeafTurner$PageSet;") (by decide +kernel)) (fun _ h9 => h9) rfl dX7_lacking_8 ?_
    refine lv_aload_n hx hb dX7_lacking_11 rfl (lv_at hl 0 rfl) ?_
    refine va_get (D := D) (ci := 7) (v := .ref (B0_ 0)) (C := RX7) (T := TX7) (N := 7) hx hb hts iw_X7_lacking_7 hown hK hP 0 rfl rfl 0 (by decide) (hts (.fieldLink RX7 10 "LeafTurner" "now" "LLeafTurner$State;") (by decide +kernel)) (fun _ h9 => h9) rfl dX7_lacking_12 ?_
    have hPc := hP.sub (ws' := lt_Pg yI Pg pi pa gs ch ++ lt_St yI B0_ i0 a0) [20, 21, 22, 23, 24, 1, 2, 3, 4, 5, 6, 7, 8, 9, 10, 11, 12, 13, 14, 15, 16, 17, 18, 19] rfl
    have hDc := hD.sub (ws' := lt_Pg yI Pg pi pa gs ch ++ lt_St yI B0_ i0 a0) [20, 21, 22, 23, 24, 1, 2, 3, 4, 5, 6, 7, 8, 9, 10, 11, 12, 13, 14, 15, 16, 17, 18, 19] (by decide) rfl
    refine lt_cWv (wc := lt_Pg yI Pg pi pa gs ch ++ lt_St yI B0_ i0 a0) (wr := [(h, .inr (7, [.ref (B0_ 0), .ref (B1_ 0), .ref (B2_ 0), .ref (G 0), .ref (Tx 0), .ref (Pg 0), .int hs_]))]) (va_runV (As := [.ref (B0_ 0)]) (rest := []) ⟨hx, hb, hml, hown, hts⟩ (c_X4_makeFor l D yI yC yO Pg B0_ pi pa gs ch i0 a0 _ ) (cwV 1 hts gX7_lacking_X4_makeFor rfl rfl rfl (by decide +kernel) ⟨Nat.le_of_ble_eq_true rfl, Nat.le_of_ble_eq_true rfl⟩) (lt_qV hK0 hPc hDc (va_recv hK hPc (ci := 4) (q0 := 0) rfl rfl)) rfl rfl hl.1 rfl (lv_room (Nat.le_of_ble_eq_true rfl)) dX7_lacking_15 ⟨Nat.zero_le _, Nat.zero_le _⟩) hP hD hS hA [20, 21, 22, 23, 24, 1, 2, 3, 4, 5, 6, 7, 8, 9, 10, 11, 12, 13, 14, 15, 16, 17, 18, 19] [0] rfl rfl (by decide) (by decide) (fun x_15 e_x_15 H locs hP hD hS => ?_)
    have hP := hP.sub (ws' := lt_Lt h B0_ B1_ B2_ G Tx Pg hs_ ++ (lt_St yI B0_ i0 a0 ++ lt_Pg yI Pg x_15.1 x_15.2.1 x_15.2.2.1 x_15.2.2.2)) [0, 6, 7, 8, 9, 10, 11, 12, 13, 14, 15, 16, 17, 18, 19, 20, 21, 22, 23, 24, 1, 2, 3, 4, 5] rfl
    have hD := hD.sub (ws' := lt_Lt h B0_ B1_ B2_ G Tx Pg hs_ ++ (lt_St yI B0_ i0 a0 ++ lt_Pg yI Pg x_15.1 x_15.2.1 x_15.2.2.1 x_15.2.2.2)) [0, 6, 7, 8, 9, 10, 11, 12, 13, 14, 15, 16, 17, 18, 19, 20, 21, 22, 23, 24, 1, 2, 3, 4, 5] (by decide) rfl
    refine lv_aload_n hx hb dX7_lacking_18 rfl (lv_at hl 0 rfl) ?_
    refine va_get (D := D) (ci := 7) (v := .ref (Pg 0)) (C := RX7) (T := TX7) (N := 7) hx hb hts iw_X7_lacking_7 hown hK hP 0 rfl rfl 5 (by decide) (hts (.fieldLink RX7 39 "LeafTurner" "pageSet" "LLeafTurner$PageSet;") (by decide +kernel)) (fun _ h9 => h9) rfl dX7_lacking_19 ?_
    refine lv_iload_n hx hb dX7_lacking_22 rfl (lv_at hl 1 rfl) ?_
    have hPc := hP.sub (ws' := lt_Pg yI Pg x_15.1 x_15.2.1 x_15.2.2.1 x_15.2.2.2) [20, 21, 22, 23, 24] rfl
    refine lt_cR (va_runV (As := [.int p0]) (rest := []) ⟨hx, hb, hml, hown, hts⟩ (c_X4_lackingAt l D yI yC yO Pg x_15.1 x_15.2.1 x_15.2.2.1 x_15.2.2.2 p0 ) (cwV 1 hts gX7_lacking_X4_lackingAt rfl rfl rfl (by decide +kernel) ⟨Nat.le_of_ble_eq_true rfl, Nat.le_of_ble_eq_true rfl⟩) (lt_pV hK0 hPc (va_recv hK hPc (ci := 4) (q0 := 0) rfl rfl)) rfl rfl hl.1 rfl (lv_room (Nat.le_of_ble_eq_true rfl)) dX7_lacking_23 ⟨Nat.zero_le _, Nat.zero_le _⟩) (fun r_23 e_r_23 => ?_)
    exact W.iret (v := r_23) hx hb hret (fun t ht hW => ⟨⟨r_23, (x_15.1, x_15.2.1, x_15.2.2.1, x_15.2.2.2), rfl, (by subst e_r_23 e_x_15; exact (Eq.symm (Eq.trans (if_pos c_1) rfl))), by rw [ht]; exact hP, hD⟩, hS.F ht⟩) hS.2.2 dX7_lacking_26
  · refine lv_bipush (v := (-2)) hx hb dX7_lacking_4 (by decide) ?_
    exact W.iret (v := (-2)) hx hb hret (fun t ht hW => ⟨⟨(-2), (pi, pa, gs, ch), rfl, (Eq.symm (Eq.trans (if_neg c_1) rfl)), by rw [ht]; exact hP, hD⟩, hS.F ht⟩) hS.2.2 dX7_lacking_6

def X7_countInSet (hs_ : Int32) (i0 : Nat → Int32) (a0 : Nat → Nat → Int32) (pi : Int32) (pa : Int32) (gs : Nat → Int32) (ch : Nat → Int32) (p0 : Int32) : Int32 × ((Int32) × (Int32) × (Nat → Int32) × (Nat → Int32)) :=
  let x_8 := X4_makeFor pi pa gs ch i0 a0
  if p0 = 3 then
    let r_48 := X4_howManyLack x_8.1 x_8.2.1 x_8.2.2.1 x_8.2.2.2
    (r_48, (x_8.1, x_8.2.1, x_8.2.2.1, x_8.2.2.2))
  else
    if p0 = 4 then
      let r_63 := X4_howManyDoubtful x_8.1 x_8.2.1 x_8.2.2.1 x_8.2.2.2 (i0 2) (a0 3) (a0 4) (a0 5) (a0 6)
      (r_63, (x_8.1, x_8.2.1, x_8.2.2.1, x_8.2.2.2))
    else
      if p0 = 5 then
        let r_71 := X4_howManySpare x_8.1 x_8.2.1 x_8.2.2.1 x_8.2.2.2
        (r_71, (x_8.1, x_8.2.1, x_8.2.2.1, x_8.2.2.2))
      else
        if p0 = 6 then
          let r_79 := X4_howManyNotGuessed x_8.1 x_8.2.1 x_8.2.2.1 x_8.2.2.2
          (r_79, (x_8.1, x_8.2.1, x_8.2.2.1, x_8.2.2.2))
        else
          ((-2), (x_8.1, x_8.2.1, x_8.2.2.1, x_8.2.2.2))
theorem iw_X7_countInSet_7 : ∀ w ∈ wsX70, w ∈ wsX7_countInSet := by decide +kernel
theorem iw_X7_countInSet_6 : ∀ w ∈ wsX60, w ∈ wsX7_countInSet := by decide +kernel
set_option maxHeartbeats 4000000 in
set_option maxRecDepth 100000 in
theorem c_X7_countInSet (l : Launch) (D : va_G) (yI yC yO : ClassId) (h : Nat) (B0_ : Nat → Nat) (B1_ : Nat → Nat) (B2_ : Nat → Nat) (G : Nat → Nat) (Tx : Nat → Nat) (Pg : Nat → Nat) (hs_ : Int32) (i0 : Nat → Int32) (a0 : Nat → Nat → Int32) (pi : Int32) (pa : Int32) (gs : Nat → Int32) (ch : Nat → Int32) (p0 : Int32) (sz : Nat) : Met l yX7_countInSet wsX7_countInSet ({ frames := 5, cells := 0, slots := 0, locals := 150 }) (va_Pc [.ref h, .int p0] (lt_M D yI yC yO (lt_Lt h B0_ B1_ B2_ G Tx Pg hs_ ++ (lt_St yI B0_ i0 a0 ++ lt_Pg yI Pg pi pa gs ch)) sz)) (lt_Qi D (X7_countInSet hs_ i0 a0 pi pa gs ch p0) (fun u => lt_Lt h B0_ B1_ B2_ G Tx Pg hs_ ++ (lt_St yI B0_ i0 a0 ++ lt_Pg yI Pg u.1 u.2.1 u.2.2.1 u.2.2.2)) (va_A (lt_Lt h B0_ B1_ B2_ G Tx Pg hs_ ++ (lt_St yI B0_ i0 a0 ++ lt_Pg yI Pg pi pa gs ch)) sz)) 0 0 (va_A (lt_Lt h B0_ B1_ B2_ G Tx Pg hs_ ++ (lt_St yI B0_ i0 a0 ++ lt_Pg yI Pg pi pa gs ch)) sz) := by
  refine Met.ofW (cc := cX7_countInSet) (maxL := 2) (ret := (some .int)) (by decide) rfl ?_
  intro p e s m args below meth c s₁ B0 hml hv
  obtain ⟨rfl, hsz, hP, hK0, hD0⟩ := hv
  have hx := B0.exec
  have hb := B0.bytes
  have hret := B0.returns
  have hts := atoms_spec (ws := wsX7_countInSet) B0.pre
  have hown : s.vm.findClass RX7 = some m.cls := findClass_of_methodNamed B0.named
  have hlocks := B0.notSynchronized
  have hK := hK0.1
  have hN := hK0.2
  subst hsz
  have hD := hD0.self (sz := s.heap.size)
  generalize hAe : va_A (lt_Lt h B0_ B1_ B2_ G Tx Pg hs_ ++ (lt_St yI B0_ i0 a0 ++ lt_Pg yI Pg pi pa gs ch)) s.heap.size = A at hD ⊢
  have hA : ∀ q : Nat, s.heap.size ≤ q → A q := fun q h => by rw [← hAe]; exact Or.inr h
  have hS : va_S A s.heap s.heap [] := va_S.rf
  have hP : va_P D vwCl (lt_Lt h B0_ B1_ B2_ G Tx Pg hs_ ++ (lt_St yI B0_ i0 a0 ++ lt_Pg yI Pg pi pa gs ch)) s.heap := hP
  have hD : va_D A (lt_Lt h B0_ B1_ B2_ G Tx Pg hs_ ++ (lt_St yI B0_ i0 a0 ++ lt_Pg yI Pg pi pa gs ch)) := hD
  have hl := lv_entry ([.ref h, .int p0]) (n := 2) (Nat.le_of_ble_eq_true rfl)
  rw [lg_entry_eq]
  generalize (lg_sl ([.ref h, .int p0]) ++ List.replicate (2 - (lg_sl ([.ref h, .int p0])).length) Slot.unset).toArray = ls at hl ⊢
  have hl : lv_has ls 2 [(0, .ref h), (1, .int p0)] := hl
  refine lv_aload_n hx hb dX7_countInSet_0 rfl (lv_at hl 0 rfl) ?_
  refine va_get (D := D) (ci := 7) (v := .ref (Pg 0)) (C := RX7) (T := TX7) (N := 7) hx hb hts iw_X7_countInSet_7 hown hK hP 0 rfl rfl 5 (by decide) (hts (.fieldLink RX7 39 "LeafTurner" "pageSet" "LLeafTurner$PageSet;") (by decide +kernel)) (fun _ h9 => h9) rfl dX7_countInSet_1 ?_
  refine lv_aload_n hx hb dX7_countInSet_4 rfl (lv_at hl 0 rfl) ?_
  refine va_get (D := D) (ci := 7) (v := .ref (B0_ 0)) (C := RX7) (T := TX7) (N := 7) hx hb hts iw_X7_countInSet_7 hown hK hP 0 rfl rfl 0 (by decide) (hts (.fieldLink RX7 10 "LeafTurner" "now" "LLeafTurner$State;") (by decide +kernel)) (fun _ h9 => h9) rfl dX7_countInSet_5 ?_
  have hPc := hP.sub (ws' := lt_Pg yI Pg pi pa gs ch ++ lt_St yI B0_ i0 a0) [20, 21, 22, 23, 24, 1, 2, 3, 4, 5, 6, 7, 8, 9, 10, 11, 12, 13, 14, 15, 16, 17, 18, 19] rfl
  have hDc := hD.sub (ws' := lt_Pg yI Pg pi pa gs ch ++ lt_St yI B0_ i0 a0) [20, 21, 22, 23, 24, 1, 2, 3, 4, 5, 6, 7, 8, 9, 10, 11, 12, 13, 14, 15, 16, 17, 18, 19] (by decide) rfl
  refine lt_cWv (wc := lt_Pg yI Pg pi pa gs ch ++ lt_St yI B0_ i0 a0) (wr := [(h, .inr (7, [.ref (B0_ 0), .ref (B1_ 0), .ref (B2_ 0), .ref (G 0), .ref (Tx 0), .ref (Pg 0), .int hs_]))]) (va_runV (As := [.ref (B0_ 0)]) (rest := []) ⟨hx, hb, hml, hown, hts⟩ (c_X4_makeFor l D yI yC yO Pg B0_ pi pa gs ch i0 a0 _ ) (cwV 1 hts gX7_countInSet_X4_makeFor rfl rfl rfl (by decide +kernel) ⟨Nat.le_of_ble_eq_true rfl, Nat.le_of_ble_eq_true rfl⟩) (lt_qV hK0 hPc hDc (va_recv hK hPc (ci := 4) (q0 := 0) rfl rfl)) rfl rfl hl.1 rfl (lv_room (Nat.le_of_ble_eq_true rfl)) dX7_countInSet_8 ⟨Nat.zero_le _, Nat.zero_le _⟩) hP hD hS hA [20, 21, 22, 23, 24, 1, 2, 3, 4, 5, 6, 7, 8, 9, 10, 11, 12, 13, 14, 15, 16, 17, 18, 19] [0] rfl rfl (by decide) (by decide) (fun x_8 e_x_8 H locs hP hD hS => ?_)
  have hP := hP.sub (ws' := lt_Lt h B0_ B1_ B2_ G Tx Pg hs_ ++ (lt_St yI B0_ i0 a0 ++ lt_Pg yI Pg x_8.1 x_8.2.1 x_8.2.2.1 x_8.2.2.2)) [0, 6, 7, 8, 9, 10, 11, 12, 13, 14, 15, 16, 17, 18, 19, 20, 21, 22, 23, 24, 1, 2, 3, 4, 5] rfl
  have hD := hD.sub (ws' := lt_Lt h B0_ B1_ B2_ G Tx Pg hs_ ++ (lt_St yI B0_ i0 a0 ++ lt_Pg yI Pg x_8.1 x_8.2.1 x_8.2.2.1 x_8.2.2.2)) [0, 6, 7, 8, 9, 10, 11, 12, 13, 14, 15, 16, 17, 18, 19, 20, 21, 22, 23, 24, 1, 2, 3, 4, 5] (by decide) rfl
  refine lv_iload_n hx hb dX7_countInSet_11 rfl (lv_at hl 1 rfl) ?_
  rcases Decidable.em (p0 = 3) with h_12_3 | h_12_3
  · refine lv_tableIn (off := 32) (tgt := 44) hx hb dX7_countInSet_12 (by rw [h_12_3]; decide) (by rw [h_12_3]; decide) (by rw [h_12_3]; rfl) (by decide) ?_
    refine lv_aload_n hx hb dX7_countInSet_44 rfl (lv_at hl 0 rfl) ?_
    refine va_get (D := D) (ci := 7) (v := .ref (Pg 0)) (C := RX7) (T := TX7) (N := 7) hx hb hts iw_X7_countInSet_7 hown hK hP 0 rfl rfl 5 (by decide) (hts (.fieldLink RX7 39 "LeafTurner" "pageSet" "LLeafTurner$PageSet;") (by decide +kernel)) (fun _ h9 => h9) rfl dX7_countInSet_45 ?_
    have hPc := hP.sub (ws' := lt_Pg yI Pg x_8.1 x_8.2.1 x_8.2.2.1 x_8.2.2.2) [20, 21, 22, 23, 24] rfl
    refine lt_cR (va_runV (As := []) (rest := []) ⟨hx, hb, hml, hown, hts⟩ (c_X4_howManyLack l D yI yC yO Pg x_8.1 x_8.2.1 x_8.2.2.1 x_8.2.2.2 ) (cwV 0 hts gX7_countInSet_X4_howManyLack rfl rfl rfl (by decide +kernel) ⟨Nat.le_of_ble_eq_true rfl, Nat.le_of_ble_eq_true rfl⟩) (lt_pV hK0 hPc (va_recv hK hPc (ci := 4) (q0 := 0) rfl rfl)) rfl rfl hl.1 rfl (lv_room (Nat.le_of_ble_eq_true rfl)) dX7_countInSet_48 ⟨Nat.zero_le _, Nat.zero_le _⟩) (fun r_48 e_r_48 => ?_)
    exact W.iret (v := r_48) hx hb hret (fun t ht hW => ⟨⟨r_48, (x_8.1, x_8.2.1, x_8.2.2.1, x_8.2.2.2), rfl, (by subst e_r_48 e_x_8; exact (Eq.symm (Eq.trans (if_pos h_12_3) rfl))), by rw [ht]; exact hP, hD⟩, hS.F ht⟩) hS.2.2 dX7_countInSet_51
  · rcases Decidable.em (p0 = 4) with h_12_4 | h_12_4
    · refine lv_tableIn (off := 40) (tgt := 52) hx hb dX7_countInSet_12 (by rw [h_12_4]; decide) (by rw [h_12_4]; decide) (by rw [h_12_4]; rfl) (by decide) ?_
      refine lv_aload_n hx hb dX7_countInSet_52 rfl (lv_at hl 0 rfl) ?_
      refine va_get (D := D) (ci := 7) (v := .ref (Pg 0)) (C := RX7) (T := TX7) (N := 7) hx hb hts iw_X7_countInSet_7 hown hK hP 0 rfl rfl 5 (by decide) (hts (.fieldLink RX7 39 "LeafTurner" "pageSet" "LLeafTurner$PageSet;") (by decide +kernel)) (fun _ h9 => h9) rfl dX7_countInSet_53 ?_
      refine lv_aload_n hx hb dX7_countInSet_56 rfl (lv_at hl 0 rfl) ?_
      refine va_get (D := D) (ci := 7) (v := .ref (B0_ 0)) (C := RX7) (T := TX7) (N := 7) hx hb hts iw_X7_countInSet_7 hown hK hP 0 rfl rfl 0 (by decide) (hts (.fieldLink RX7 10 "LeafTurner" "now" "LLeafTurner$State;") (by decide +kernel)) (fun _ h9 => h9) rfl dX7_countInSet_57 ?_
      refine va_getN (D := D) (ci := 6) (v := .ref (B0_ 8)) (C := RX6) (T := TX6) (N := 10) hx hb hts iw_X7_countInSet_6 hown hK hP 1 rfl rfl 1 (by decide) (va_Nw.use rfl (hN _ lt_nw21)) (fun _ h9 => h9) rfl dX7_countInSet_60 ?_
      have hPc := hP.sub (ws' := lt_Pg yI Pg x_8.1 x_8.2.1 x_8.2.2.1 x_8.2.2.2 ++ lt_Ps yI B0_ (i0 2) (a0 3) (a0 4) (a0 5) (a0 6)) [20, 21, 22, 23, 24, 9, 10, 11, 12, 13, 14, 15, 16, 17] rfl
      refine lt_cR (va_runV (As := [.ref (B0_ 8)]) (rest := []) ⟨hx, hb, hml, hown, hts⟩ (c_X4_howManyDoubtful l D yI yC yO Pg B0_ x_8.1 x_8.2.1 x_8.2.2.1 x_8.2.2.2 (i0 2) (a0 3) (a0 4) (a0 5) (a0 6) ) (cwV 1 hts gX7_countInSet_X4_howManyDoubtful rfl rfl rfl (by decide +kernel) ⟨Nat.le_of_ble_eq_true rfl, Nat.le_of_ble_eq_true rfl⟩) (lt_pV hK0 hPc (va_recv hK hPc (ci := 4) (q0 := 0) rfl rfl)) rfl rfl hl.1 rfl (lv_room (Nat.le_of_ble_eq_true rfl)) dX7_countInSet_63 ⟨Nat.zero_le _, Nat.zero_le _⟩) (fun r_63 e_r_63 => ?_)
      exact W.iret (v := r_63) hx hb hret (fun t ht hW => ⟨⟨r_63, (x_8.1, x_8.2.1, x_8.2.2.1, x_8.2.2.2), rfl, (by subst e_r_63 e_x_8; exact (Eq.symm (Eq.trans (if_neg h_12_3) (Eq.trans (if_pos h_12_4) rfl)))), by rw [ht]; exact hP, hD⟩, hS.F ht⟩) hS.2.2 dX7_countInSet_66
    · rcases Decidable.em (p0 = 5) with h_12_5 | h_12_5
      · refine lv_tableIn (off := 55) (tgt := 67) hx hb dX7_countInSet_12 (by rw [h_12_5]; decide) (by rw [h_12_5]; decide) (by rw [h_12_5]; rfl) (by decide) ?_
        refine lv_aload_n hx hb dX7_countInSet_67 rfl (lv_at hl 0 rfl) ?_
        refine va_get (D := D) (ci := 7) (v := .ref (Pg 0)) (C := RX7) (T := TX7) (N := 7) hx hb hts iw_X7_countInSet_7 hown hK hP 0 rfl rfl 5 (by decide) (hts (.fieldLink RX7 39 "LeafTurner" "pageSet" "LLeafTurner$PageSet;") (by decide +kernel)) (fun _ h9 => h9) rfl dX7_countInSet_68 ?_
        have hPc := hP.sub (ws' := lt_Pg yI Pg x_8.1 x_8.2.1 x_8.2.2.1 x_8.2.2.2) [20, 21, 22, 23, 24] rfl
        refine lt_cR (va_runV (As := []) (rest := []) ⟨hx, hb, hml, hown, hts⟩ (c_X4_howManySpare l D yI yC yO Pg x_8.1 x_8.2.1 x_8.2.2.1 x_8.2.2.2 ) (cwV 0 hts gX7_countInSet_X4_howManySpare rfl rfl rfl (by decide +kernel) ⟨Nat.le_of_ble_eq_true rfl, Nat.le_of_ble_eq_true rfl⟩) (lt_pV hK0 hPc (va_recv hK hPc (ci := 4) (q0 := 0) rfl rfl)) rfl rfl hl.1 rfl (lv_room (Nat.le_of_ble_eq_true rfl)) dX7_countInSet_71 ⟨Nat.zero_le _, Nat.zero_le _⟩) (fun r_71 e_r_71 => ?_)
        exact W.iret (v := r_71) hx hb hret (fun t ht hW => ⟨⟨r_71, (x_8.1, x_8.2.1, x_8.2.2.1, x_8.2.2.2), rfl, (by subst e_r_71 e_x_8; exact (Eq.symm (Eq.trans (if_neg h_12_3) (Eq.trans (if_neg h_12_4) (Eq.trans (if_pos h_12_5) rfl))))), by rw [ht]; exact hP, hD⟩, hS.F ht⟩) hS.2.2 dX7_countInSet_74
      · rcases Decidable.em (p0 = 6) with h_12_6 | h_12_6
        · refine lv_tableIn (off := 63) (tgt := 75) hx hb dX7_countInSet_12 (by rw [h_12_6]; decide) (by rw [h_12_6]; decide) (by rw [h_12_6]; rfl) (by decide) ?_
          refine lv_aload_n hx hb dX7_countInSet_75 rfl (lv_at hl 0 rfl) ?_
          refine va_get (D := D) (ci := 7) (v := .ref (Pg 0)) (C := RX7) (T := TX7) (N := 7) hx hb hts iw_X7_countInSet_7 hown hK hP 0 rfl rfl 5 (by decide) (hts (.fieldLink RX7 39 "LeafTurner" "pageSet" "LLeafTurner$PageSet;") (by decide +kernel)) (fun _ h9 => h9) rfl dX7_countInSet_76 ?_
          have hPc := hP.sub (ws' := lt_Pg yI Pg x_8.1 x_8.2.1 x_8.2.2.1 x_8.2.2.2) [20, 21, 22, 23, 24] rfl
          refine lt_cR (va_runV (As := []) (rest := []) ⟨hx, hb, hml, hown, hts⟩ (c_X4_howManyNotGuessed l D yI yC yO Pg x_8.1 x_8.2.1 x_8.2.2.1 x_8.2.2.2 ) (cwV 0 hts gX7_countInSet_X4_howManyNotGuessed rfl rfl rfl (by decide +kernel) ⟨Nat.le_of_ble_eq_true rfl, Nat.le_of_ble_eq_true rfl⟩) (lt_pV hK0 hPc (va_recv hK hPc (ci := 4) (q0 := 0) rfl rfl)) rfl rfl hl.1 rfl (lv_room (Nat.le_of_ble_eq_true rfl)) dX7_countInSet_79 ⟨Nat.zero_le _, Nat.zero_le _⟩) (fun r_79 e_r_79 => ?_)
          exact W.iret (v := r_79) hx hb hret (fun t ht hW => ⟨⟨r_79, (x_8.1, x_8.2.1, x_8.2.2.1, x_8.2.2.2), rfl, (by subst e_r_79 e_x_8; exact (Eq.symm (Eq.trans (if_neg h_12_3) (Eq.trans (if_neg h_12_4) (Eq.trans (if_neg h_12_5) (Eq.trans (if_pos h_12_6) rfl)))))), by rw [ht]; exact hP, hD⟩, hS.F ht⟩) hS.2.2 dX7_countInSet_82
        · refine lv_tableOut (tgt := 83) hx hb dX7_countInSet_12 (lt_sw3_6 h_12_3 h_12_4 h_12_5 h_12_6) (by decide) ?_
          refine lv_bipush (v := (-2)) hx hb dX7_countInSet_83 (by decide) ?_
          exact W.iret (v := (-2)) hx hb hret (fun t ht hW => ⟨⟨(-2), (x_8.1, x_8.2.1, x_8.2.2.1, x_8.2.2.2), rfl, (by subst e_x_8; exact (Eq.symm (Eq.trans (if_neg h_12_3) (Eq.trans (if_neg h_12_4) (Eq.trans (if_neg h_12_5) (Eq.trans (if_neg h_12_6) rfl)))))), by rw [ht]; exact hP, hD⟩, hS.F ht⟩) hS.2.2 dX7_countInSet_85

def X7_count (hs_ : Int32) (z : Int32) (Bh : Nat → Nat → Nat) (Vh : Nat → lt_SV) (i0 : Nat → Int32) (a0 : Nat → Nat → Int32) (len : Int32) (sg : Nat → Int32) (pi : Int32) (pa : Int32) (gs : Nat → Int32) (ch : Nat → Int32) (p0 : Int32) : Int32 × ((Int32) × (Int32) × (Nat → Int32) × (Nat → Int32)) :=
  if p0 = 0 then
    ((i0 0), (pi, pa, gs, ch))
  else
    if p0 = 1 then
      ((i0 1), (pi, pa, gs, ch))
    else
      if p0 = 2 then
        ((i0 2), (pi, pa, gs, ch))
      else
        if p0 = 3 then
          let x_116 := X7_countInSet hs_ i0 a0 pi pa gs ch p0
          (x_116.1, (x_116.2.1, x_116.2.2.1, x_116.2.2.2.1, x_116.2.2.2.2))
        else
          if p0 = 4 then
            let x_116 := X7_countInSet hs_ i0 a0 pi pa gs ch p0
            (x_116.1, (x_116.2.1, x_116.2.2.1, x_116.2.2.2.1, x_116.2.2.2.2))
          else
            if p0 = 5 then
              let x_116 := X7_countInSet hs_ i0 a0 pi pa gs ch p0
              (x_116.1, (x_116.2.1, x_116.2.2.1, x_116.2.2.2.1, x_116.2.2.2.2))
            else
              if p0 = 6 then
                let x_116 := X7_countInSet hs_ i0 a0 pi pa gs ch p0
                (x_116.1, (x_116.2.1, x_116.2.2.1, x_116.2.2.2.1, x_116.2.2.2.2))
              else
                if p0 = 7 then
                  ((i0 4), (pi, pa, gs, ch))
                else
                  if p0 = 8 then
                    ((i0 5), (pi, pa, gs, ch))
                  else
                    if p0 = 9 then
                      ((i0 6), (pi, pa, gs, ch))
                    else
                      if p0 = 10 then
                        ((i0 8), (pi, pa, gs, ch))
                      else
                        if p0 = 11 then
                          let r_160 := X3_at 3 (a0 7) 0
                          (r_160, (pi, pa, gs, ch))
                        else
                          if p0 = 12 then
                            let r_172 := X3_at 3 (a0 7) 1
                            (r_172, (pi, pa, gs, ch))
                          else
                            if p0 = 13 then
                              let r_184 := X3_at 3 (a0 7) 2
                              (r_184, (pi, pa, gs, ch))
                            else
                              if p0 = 14 then
                                ((i0 3), (pi, pa, gs, ch))
                              else
                                if p0 = 15 then
                                  (z, (pi, pa, gs, ch))
                                else
                                  if p0 = 16 then
                                    (len, (pi, pa, gs, ch))
                                  else
                                    ((-2), (pi, pa, gs, ch))
theorem iw_X7_count_7 : ∀ w ∈ wsX70, w ∈ wsX7_count := by decide +kernel
theorem iw_X7_count_6 : ∀ w ∈ wsX60, w ∈ wsX7_count := by decide +kernel
theorem iw_X7_count_0 : ∀ w ∈ wsX00, w ∈ wsX7_count := by decide +kernel
theorem iw_X7_count_5 : ∀ w ∈ wsX50, w ∈ wsX7_count := by decide +kernel
theorem iw_X7_count_2 : ∀ w ∈ wsX20, w ∈ wsX7_count := by decide +kernel
theorem iw_X7_count_1 : ∀ w ∈ wsX10, w ∈ wsX7_count := by decide +kernel
set_option maxHeartbeats 4000000 in
set_option maxRecDepth 100000 in
theorem c_X7_count (l : Launch) (D : va_G) (yI yC yO : ClassId) (h : Nat) (B0_ : Nat → Nat) (B1_ : Nat → Nat) (B2_ : Nat → Nat) (G : Nat → Nat) (Tx : Nat → Nat) (Pg : Nat → Nat) (hs_ : Int32) (z : Int32) (Bh : Nat → Nat → Nat) (Vh : Nat → lt_SV) (i0 : Nat → Int32) (a0 : Nat → Nat → Int32) (len : Int32) (sg : Nat → Int32) (pi : Int32) (pa : Int32) (gs : Nat → Int32) (ch : Nat → Int32) (p0 : Int32) (sz : Nat) : Met l yX7_count wsX7_count ({ frames := 6, cells := 0, slots := 0, locals := 180 }) (va_Pc [.ref h, .int p0] (lt_M D yI yC yO (lt_Lt h B0_ B1_ B2_ G Tx Pg hs_ ++ (lt_Hi yI yO G z Bh Vh ++ (lt_St yI B0_ i0 a0 ++ (lt_Tx yC Tx len sg ++ lt_Pg yI Pg pi pa gs ch)))) sz)) (lt_Qi D (X7_count hs_ z Bh Vh i0 a0 len sg pi pa gs ch p0) (fun u => lt_Lt h B0_ B1_ B2_ G Tx Pg hs_ ++ (lt_Hi yI yO G z Bh Vh ++ (lt_St yI B0_ i0 a0 ++ (lt_Tx yC Tx len sg ++ lt_Pg yI Pg u.1 u.2.1 u.2.2.1 u.2.2.2)))) (va_A (lt_Lt h B0_ B1_ B2_ G Tx Pg hs_ ++ (lt_Hi yI yO G z Bh Vh ++ (lt_St yI B0_ i0 a0 ++ (lt_Tx yC Tx len sg ++ lt_Pg yI Pg pi pa gs ch)))) sz)) 0 0 (va_A (lt_Lt h B0_ B1_ B2_ G Tx Pg hs_ ++ (lt_Hi yI yO G z Bh Vh ++ (lt_St yI B0_ i0 a0 ++ (lt_Tx yC Tx len sg ++ lt_Pg yI Pg pi pa gs ch)))) sz) := by
  refine Met.ofW (cc := cX7_count) (maxL := 2) (ret := (some .int)) (by decide) rfl ?_
  intro p e s m args below meth c s₁ B0 hml hv
  obtain ⟨rfl, hsz, hP, hK0, hD0⟩ := hv
  have hx := B0.exec
  have hb := B0.bytes
  have hret := B0.returns
  have hts := atoms_spec (ws := wsX7_count) B0.pre
  have hown : s.vm.findClass RX7 = some m.cls := findClass_of_methodNamed B0.named
  have hlocks := B0.notSynchronized
  have hK := hK0.1
  have hN := hK0.2
  subst hsz
  have hD := hD0.self (sz := s.heap.size)
  generalize hAe : va_A (lt_Lt h B0_ B1_ B2_ G Tx Pg hs_ ++ (lt_Hi yI yO G z Bh Vh ++ (lt_St yI B0_ i0 a0 ++ (lt_Tx yC Tx len sg ++ lt_Pg yI Pg pi pa gs ch)))) s.heap.size = A at hD ⊢
  have hA : ∀ q : Nat, s.heap.size ≤ q → A q := fun q h => by rw [← hAe]; exact Or.inr h
  have hS : va_S A s.heap s.heap [] := va_S.rf
  have hP : va_P D vwCl (lt_Lt h B0_ B1_ B2_ G Tx Pg hs_ ++ (lt_Hi yI yO G z Bh Vh ++ (lt_St yI B0_ i0 a0 ++ (lt_Tx yC Tx len sg ++ lt_Pg yI Pg pi pa gs ch)))) s.heap := hP
  have hD : va_D A (lt_Lt h B0_ B1_ B2_ G Tx Pg hs_ ++ (lt_Hi yI yO G z Bh Vh ++ (lt_St yI B0_ i0 a0 ++ (lt_Tx yC Tx len sg ++ lt_Pg yI Pg pi pa gs ch)))) := hD
  have hl := lv_entry ([.ref h, .int p0]) (n := 2) (Nat.le_of_ble_eq_true rfl)
  rw [lg_entry_eq]
  generalize (lg_sl ([.ref h, .int p0]) ++ List.replicate (2 - (lg_sl ([.ref h, .int p0])).length) Slot.unset).toArray = ls at hl ⊢
  have hl : lv_has ls 2 [(0, .ref h), (1, .int p0)] := hl
  refine lv_iload_n hx hb dX7_count_0 rfl (lv_at hl 1 rfl) ?_
  rcases Decidable.em (p0 = 0) with h_1_0 | h_1_0
  · refine lv_tableIn (off := 83) (tgt := 84) hx hb dX7_count_1 (by rw [h_1_0]; decide) (by rw [h_1_0]; decide) (by rw [h_1_0]; rfl) (by decide) ?_
    refine lv_aload_n hx hb dX7_count_84 rfl (lv_at hl 0 rfl) ?_
    refine va_get (D := D) (ci := 7) (v := .ref (B0_ 0)) (C := RX7) (T := TX7) (N := 7) hx hb hts iw_X7_count_7 hown hK hP 0 rfl rfl 0 (by decide) (hts (.fieldLink RX7 10 "LeafTurner" "now" "LLeafTurner$State;") (by decide +kernel)) (fun _ h9 => h9) rfl dX7_count_85 ?_
    refine va_getN (D := D) (ci := 6) (v := .ref (B0_ 1)) (C := RX6) (T := TX6) (N := 10) hx hb hts iw_X7_count_6 hown hK hP 79 rfl rfl 0 (by decide) (va_Nw.use rfl (hN _ lt_nw18)) (fun _ h9 => h9) rfl dX7_count_88 ?_
    refine va_getN (D := D) (ci := 0) (v := .int (i0 0)) (C := RX0) (T := TX0) (N := 4) hx hb hts iw_X7_count_0 hown hK hP 80 rfl rfl 3 (by decide) (va_Nw.use rfl (hN _ lt_nw6)) (fun _ h9 => h9) rfl dX7_count_91 ?_
    exact W.iret (v := (i0 0)) hx hb hret (fun t ht hW => ⟨⟨(i0 0), (pi, pa, gs, ch), rfl, (Eq.symm (Eq.trans (if_pos h_1_0) rfl)), by rw [ht]; exact hP, hD⟩, hS.F ht⟩) hS.2.2 dX7_count_94
  · rcases Decidable.em (p0 = 1) with h_1_1 | h_1_1
    · refine lv_tableIn (off := 94) (tgt := 95) hx hb dX7_count_1 (by rw [h_1_1]; decide) (by rw [h_1_1]; decide) (by rw [h_1_1]; rfl) (by decide) ?_
      refine lv_aload_n hx hb dX7_count_95 rfl (lv_at hl 0 rfl) ?_
      refine va_get (D := D) (ci := 7) (v := .ref (B0_ 0)) (C := RX7) (T := TX7) (N := 7) hx hb hts iw_X7_count_7 hown hK hP 0 rfl rfl 0 (by decide) (hts (.fieldLink RX7 10 "LeafTurner" "now" "LLeafTurner$State;") (by decide +kernel)) (fun _ h9 => h9) rfl dX7_count_96 ?_
      refine va_getN (D := D) (ci := 6) (v := .int (i0 1)) (C := RX6) (T := TX6) (N := 10) hx hb hts iw_X7_count_6 hown hK hP 79 rfl rfl 3 (by decide) (va_Nw.use rfl (hN _ lt_nw24)) (fun _ h9 => h9) rfl dX7_count_99 ?_
      exact W.iret (v := (i0 1)) hx hb hret (fun t ht hW => ⟨⟨(i0 1), (pi, pa, gs, ch), rfl, (Eq.symm (Eq.trans (if_neg h_1_0) (Eq.trans (if_pos h_1_1) rfl))), by rw [ht]; exact hP, hD⟩, hS.F ht⟩) hS.2.2 dX7_count_102
    · rcases Decidable.em (p0 = 2) with h_1_2 | h_1_2
      · refine lv_tableIn (off := 102) (tgt := 103) hx hb dX7_count_1 (by rw [h_1_2]; decide) (by rw [h_1_2]; decide) (by rw [h_1_2]; rfl) (by decide) ?_
        refine lv_aload_n hx hb dX7_count_103 rfl (lv_at hl 0 rfl) ?_
        refine va_get (D := D) (ci := 7) (v := .ref (B0_ 0)) (C := RX7) (T := TX7) (N := 7) hx hb hts iw_X7_count_7 hown hK hP 0 rfl rfl 0 (by decide) (hts (.fieldLink RX7 10 "LeafTurner" "now" "LLeafTurner$State;") (by decide +kernel)) (fun _ h9 => h9) rfl dX7_count_104 ?_
        refine va_getN (D := D) (ci := 6) (v := .ref (B0_ 8)) (C := RX6) (T := TX6) (N := 10) hx hb hts iw_X7_count_6 hown hK hP 79 rfl rfl 1 (by decide) (va_Nw.use rfl (hN _ lt_nw21)) (fun _ h9 => h9) rfl dX7_count_107 ?_
        refine va_getN (D := D) (ci := 5) (v := .int (i0 2)) (C := RX5) (T := TX5) (N := 5) hx hb hts iw_X7_count_5 hown hK hP 87 rfl rfl 4 (by decide) (va_Nw.use rfl (hN _ lt_nw16)) (fun _ h9 => h9) rfl dX7_count_110 ?_
        exact W.iret (v := (i0 2)) hx hb hret (fun t ht hW => ⟨⟨(i0 2), (pi, pa, gs, ch), rfl, (Eq.symm (Eq.trans (if_neg h_1_0) (Eq.trans (if_neg h_1_1) (Eq.trans (if_pos h_1_2) rfl)))), by rw [ht]; exact hP, hD⟩, hS.F ht⟩) hS.2.2 dX7_count_113
      · rcases Decidable.em (p0 = 3) with h_1_3 | h_1_3
        · refine lv_tableIn (off := 113) (tgt := 114) hx hb dX7_count_1 (by rw [h_1_3]; decide) (by rw [h_1_3]; decide) (by rw [h_1_3]; rfl) (by decide) ?_
          refine lv_aload_n hx hb dX7_count_114 rfl (lv_at hl 0 rfl) ?_
          refine lv_iload_n hx hb dX7_count_115 rfl (lv_at hl 1 rfl) ?_
          have hPc := hP.sub (ws' := lt_Lt h B0_ B1_ B2_ G Tx Pg hs_ ++ (lt_St yI B0_ i0 a0 ++ lt_Pg yI Pg pi pa gs ch)) [0, 79, 80, 81, 82, 83, 84, 85, 86, 87, 88, 89, 90, 91, 92, 93, 94, 95, 96, 97, 100, 101, 102, 103, 104] rfl
          have hDc := hD.sub (ws' := lt_Lt h B0_ B1_ B2_ G Tx Pg hs_ ++ (lt_St yI B0_ i0 a0 ++ lt_Pg yI Pg pi pa gs ch)) [0, 79, 80, 81, 82, 83, 84, 85, 86, 87, 88, 89, 90, 91, 92, 93, 94, 95, 96, 97, 100, 101, 102, 103, 104] (by decide) rfl
          refine lt_cWi (wc := lt_Lt h B0_ B1_ B2_ G Tx Pg hs_ ++ (lt_St yI B0_ i0 a0 ++ lt_Pg yI Pg pi pa gs ch)) (wr := [(G 0, .inr (2, [.ref (G 1), .int z])), (G 1, .inl (yO, 4, .inr (.inr (.inr (.inr (fun k => some (Bh k 0))))))), ((Bh 0) 0, .inr (6, [.ref ((Bh 0) 1), .ref ((Bh 0) 8), .ref ((Bh 0) 17), .int (((Vh 0).1) 1), .int (((Vh 0).1) 8), .int (((Vh 0).1) 4), .int (((Vh 0).1) 5), .int (((Vh 0).1) 6), .int (((Vh 0).1) 7), .int (((Vh 0).1) 3)])), ((Bh 0) 1, .inr (0, [.ref ((Bh 0) 2), .ref ((Bh 0) 4), .ref ((Bh 0) 6), .int (((Vh 0).1) 0)])), ((Bh 0) 2, .inr (3, [.ref ((Bh 0) 3)])), ((Bh 0) 3, .inl (yI, 30, .inl (((Vh 0).2) 0))), ((Bh 0) 4, .inr (3, [.ref ((Bh 0) 5)])), ((Bh 0) 5, .inl (yI, 30, .inl (((Vh 0).2) 1))), ((Bh 0) 6, .inr (3, [.ref ((Bh 0) 7)])), ((Bh 0) 7, .inl (yI, 60, .inl (((Vh 0).2) 2))), ((Bh 0) 8, .inr (5, [.ref ((Bh 0) 9), .ref ((Bh 0) 11), .ref ((Bh 0) 13), .ref ((Bh 0) 15), .int (((Vh 0).1) 2)])), ((Bh 0) 9, .inr (3, [.ref ((Bh 0) 10)])), ((Bh 0) 10, .inl (yI, 80, .inl (((Vh 0).2) 3))), ((Bh 0) 11, .inr (3, [.ref ((Bh 0) 12)])), ((Bh 0) 12, .inl (yI, 80, .inl (((Vh 0).2) 4))), ((Bh 0) 13, .inr (3, [.ref ((Bh 0) 14)])), ((Bh 0) 14, .inl (yI, 80, .inl (((Vh 0).2) 5))), ((Bh 0) 15, .inr (3, [.ref ((Bh 0) 16)])), ((Bh 0) 16, .inl (yI, 80, .inl (((Vh 0).2) 6))), ((Bh 0) 17, .inr (3, [.ref ((Bh 0) 18)])), ((Bh 0) 18, .inl (yI, 3, .inl (((Vh 0).2) 7))), ((Bh 1) 0, .inr (6, [.ref ((Bh 1) 1), .ref ((Bh 1) 8), .ref ((Bh 1) 17), .int (((Vh 1).1) 1), .int (((Vh 1).1) 8), .int (((Vh 1).1) 4), .int (((Vh 1).1) 5), .int (((Vh 1).1) 6), .int (((Vh 1).1) 7), .int (((Vh 1).1) 3)])), ((Bh 1) 1, .inr (0, [.ref ((Bh 1) 2), .ref ((Bh 1) 4), .ref ((Bh 1) 6), .int (((Vh 1).1) 0)])), ((Bh 1) 2, .inr (3, [.ref ((Bh 1) 3)])), ((Bh 1) 3, .inl (yI, 30, .inl (((Vh 1).2) 0))), ((Bh 1) 4, .inr (3, [.ref ((Bh 1) 5)])), ((Bh 1) 5, .inl (yI, 30, .inl (((Vh 1).2) 1))), ((Bh 1) 6, .inr (3, [.ref ((Bh 1) 7)])), ((Bh 1) 7, .inl (yI, 60, .inl (((Vh 1).2) 2))), ((Bh 1) 8, .inr (5, [.ref ((Bh 1) 9), .ref ((Bh 1) 11), .ref ((Bh 1) 13), .ref ((Bh 1) 15), .int (((Vh 1).1) 2)])), ((Bh 1) 9, .inr (3, [.ref ((Bh 1) 10)])), ((Bh 1) 10, .inl (yI, 80, .inl (((Vh 1).2) 3))), ((Bh 1) 11, .inr (3, [.ref ((Bh 1) 12)])), ((Bh 1) 12, .inl (yI, 80, .inl (((Vh 1).2) 4))), ((Bh 1) 13, .inr (3, [.ref ((Bh 1) 14)])), ((Bh 1) 14, .inl (yI, 80, .inl (((Vh 1).2) 5))), ((Bh 1) 15, .inr (3, [.ref ((Bh 1) 16)])), ((Bh 1) 16, .inl (yI, 80, .inl (((Vh 1).2) 6))), ((Bh 1) 17, .inr (3, [.ref ((Bh 1) 18)])), ((Bh 1) 18, .inl (yI, 3, .inl (((Vh 1).2) 7))), ((Bh 2) 0, .inr (6, [.ref ((Bh 2) 1), .ref ((Bh 2) 8), .ref ((Bh 2) 17), .int (((Vh 2).1) 1), .int (((Vh 2).1) 8), .int (((Vh 2).1) 4), .int (((Vh 2).1) 5), .int (((Vh 2).1) 6), .int (((Vh 2).1) 7), .int (((Vh 2).1) 3)])), ((Bh 2) 1, .inr (0, [.ref ((Bh 2) 2), .ref ((Bh 2) 4), .ref ((Bh 2) 6), .int (((Vh 2).1) 0)])), ((Bh 2) 2, .inr (3, [.ref ((Bh 2) 3)])), ((Bh 2) 3, .inl (yI, 30, .inl (((Vh 2).2) 0))), ((Bh 2) 4, .inr (3, [.ref ((Bh 2) 5)])), ((Bh 2) 5, .inl (yI, 30, .inl (((Vh 2).2) 1))), ((Bh 2) 6, .inr (3, [.ref ((Bh 2) 7)])), ((Bh 2) 7, .inl (yI, 60, .inl (((Vh 2).2) 2))), ((Bh 2) 8, .inr (5, [.ref ((Bh 2) 9), .ref ((Bh 2) 11), .ref ((Bh 2) 13), .ref ((Bh 2) 15), .int (((Vh 2).1) 2)])), ((Bh 2) 9, .inr (3, [.ref ((Bh 2) 10)])), ((Bh 2) 10, .inl (yI, 80, .inl (((Vh 2).2) 3))), ((Bh 2) 11, .inr (3, [.ref ((Bh 2) 12)])), ((Bh 2) 12, .inl (yI, 80, .inl (((Vh 2).2) 4))), ((Bh 2) 13, .inr (3, [.ref ((Bh 2) 14)])), ((Bh 2) 14, .inl (yI, 80, .inl (((Vh 2).2) 5))), ((Bh 2) 15, .inr (3, [.ref ((Bh 2) 16)])), ((Bh 2) 16, .inl (yI, 80, .inl (((Vh 2).2) 6))), ((Bh 2) 17, .inr (3, [.ref ((Bh 2) 18)])), ((Bh 2) 18, .inl (yI, 3, .inl (((Vh 2).2) 7))), ((Bh 3) 0, .inr (6, [.ref ((Bh 3) 1), .ref ((Bh 3) 8), .ref ((Bh 3) 17), .int (((Vh 3).1) 1), .int (((Vh 3).1) 8), .int (((Vh 3).1) 4), .int (((Vh 3).1) 5), .int (((Vh 3).1) 6), .int (((Vh 3).1) 7), .int (((Vh 3).1) 3)])), ((Bh 3) 1, .inr (0, [.ref ((Bh 3) 2), .ref ((Bh 3) 4), .ref ((Bh 3) 6), .int (((Vh 3).1) 0)])), ((Bh 3) 2, .inr (3, [.ref ((Bh 3) 3)])), ((Bh 3) 3, .inl (yI, 30, .inl (((Vh 3).2) 0))), ((Bh 3) 4, .inr (3, [.ref ((Bh 3) 5)])), ((Bh 3) 5, .inl (yI, 30, .inl (((Vh 3).2) 1))), ((Bh 3) 6, .inr (3, [.ref ((Bh 3) 7)])), ((Bh 3) 7, .inl (yI, 60, .inl (((Vh 3).2) 2))), ((Bh 3) 8, .inr (5, [.ref ((Bh 3) 9), .ref ((Bh 3) 11), .ref ((Bh 3) 13), .ref ((Bh 3) 15), .int (((Vh 3).1) 2)])), ((Bh 3) 9, .inr (3, [.ref ((Bh 3) 10)])), ((Bh 3) 10, .inl (yI, 80, .inl (((Vh 3).2) 3))), ((Bh 3) 11, .inr (3, [.ref ((Bh 3) 12)])), ((Bh 3) 12, .inl (yI, 80, .inl (((Vh 3).2) 4))), ((Bh 3) 13, .inr (3, [.ref ((Bh 3) 14)])), ((Bh 3) 14, .inl (yI, 80, .inl (((Vh 3).2) 5))), ((Bh 3) 15, .inr (3, [.ref ((Bh 3) 16)])), ((Bh 3) 16, .inl (yI, 80, .inl (((Vh 3).2) 6))), ((Bh 3) 17, .inr (3, [.ref ((Bh 3) 18)])), ((Bh 3) 18, .inl (yI, 3, .inl (((Vh 3).2) 7))), (Tx 0, .inr (1, [.ref (Tx 1), .int len])), (Tx 1, .inl (yC, 60, .inl sg))]) (va_runV (As := [.int p0]) (rest := []) ⟨hx, hb, hml, hown, hts⟩ (c_X7_countInSet l D yI yC yO h B0_ B1_ B2_ G Tx Pg hs_ i0 a0 pi pa gs ch p0 _ ) (cwV 1 hts gX7_count_X7_countInSet rfl rfl rfl (by decide +kernel) ⟨Nat.le_of_ble_eq_true rfl, Nat.le_of_ble_eq_true rfl⟩) (lt_qV hK0 hPc hDc (va_recv hK hPc (ci := 7) (q0 := 0) rfl rfl)) rfl rfl hl.1 rfl (lv_room (Nat.le_of_ble_eq_true rfl)) dX7_count_116 ⟨Nat.zero_le _, Nat.zero_le _⟩) hP hD hS hA [0, 79, 80, 81, 82, 83, 84, 85, 86, 87, 88, 89, 90, 91, 92, 93, 94, 95, 96, 97, 100, 101, 102, 103, 104] [1, 2, 3, 4, 5, 6, 7, 8, 9, 10, 11, 12, 13, 14, 15, 16, 17, 18, 19, 20, 21, 22, 23, 24, 25, 26, 27, 28, 29, 30, 31, 32, 33, 34, 35, 36, 37, 38, 39, 40, 41, 42, 43, 44, 45, 46, 47, 48, 49, 50, 51, 52, 53, 54, 55, 56, 57, 58, 59, 60, 61, 62, 63, 64, 65, 66, 67, 68, 69, 70, 71, 72, 73, 74, 75, 76, 77, 78, 98, 99] rfl rfl (by decide) (by decide) (fun x_116 e_x_116 H locs hP hD hS => ?_)
          have hP := hP.sub (ws' := lt_Lt h B0_ B1_ B2_ G Tx Pg hs_ ++ (lt_Hi yI yO G z Bh Vh ++ (lt_St yI B0_ i0 a0 ++ (lt_Tx yC Tx len sg ++ lt_Pg yI Pg x_116.2.1 x_116.2.2.1 x_116.2.2.2.1 x_116.2.2.2.2)))) [80, 0, 1, 2, 3, 4, 5, 6, 7, 8, 9, 10, 11, 12, 13, 14, 15, 16, 17, 18, 19, 20, 21, 22, 23, 24, 25, 26, 27, 28, 29, 30, 31, 32, 33, 34, 35, 36, 37, 38, 39, 40, 41, 42, 43, 44, 45, 46, 47, 48, 49, 50, 51, 52, 53, 54, 55, 56, 57, 58, 59, 60, 61, 62, 63, 64, 65, 66, 67, 68, 69, 70, 71, 72, 73, 74, 75, 76, 77, 81, 82, 83, 84, 85, 86, 87, 88, 89, 90, 91, 92, 93, 94, 95, 96, 97, 98, 99, 78, 79, 100, 101, 102, 103, 104] rfl
          have hD := hD.sub (ws' := lt_Lt h B0_ B1_ B2_ G Tx Pg hs_ ++ (lt_Hi yI yO G z Bh Vh ++ (lt_St yI B0_ i0 a0 ++ (lt_Tx yC Tx len sg ++ lt_Pg yI Pg x_116.2.1 x_116.2.2.1 x_116.2.2.2.1 x_116.2.2.2.2)))) [80, 0, 1, 2, 3, 4, 5, 6, 7, 8, 9, 10, 11, 12, 13, 14, 15, 16, 17, 18, 19, 20, 21, 22, 23, 24, 25, 26, 27, 28, 29, 30, 31, 32, 33, 34, 35, 36, 37, 38, 39, 40, 41, 42, 43, 44, 45, 46, 47, 48, 49, 50, 51, 52, 53, 54, 55, 56, 57, 58, 59, 60, 61, 62, 63, 64, 65, 66, 67, 68, 69, 70, 71, 72, 73, 74, 75, 76, 77, 81, 82, 83, 84, 85, 86, 87, 88, 89, 90, 91, 92, 93, 94, 95, 96, 97, 98, 99, 78, 79, 100, 101, 102, 103, 104] (by decide) rfl
          exact W.iret (v := x_116.1) hx hb hret (fun t ht hW => ⟨⟨x_116.1, (x_116.2.1, x_116.2.2.1, x_116.2.2.2.1, x_116.2.2.2.2), rfl, (by subst e_x_116; exact (Eq.symm (Eq.trans (if_neg h_1_0) (Eq.trans (if_neg h_1_1) (Eq.trans (if_neg h_1_2) (Eq.trans (if_pos h_1_3) rfl)))))), by rw [ht]; exact hP, hD⟩, hS.F ht⟩) hS.2.2 dX7_count_119
        · rcases Decidable.em (p0 = 4) with h_1_4 | h_1_4
          · refine lv_tableIn (off := 113) (tgt := 114) hx hb dX7_count_1 (by rw [h_1_4]; decide) (by rw [h_1_4]; decide) (by rw [h_1_4]; rfl) (by decide) ?_
            refine lv_aload_n hx hb dX7_count_114 rfl (lv_at hl 0 rfl) ?_
            refine lv_iload_n hx hb dX7_count_115 rfl (lv_at hl 1 rfl) ?_
            have hPc := hP.sub (ws' := lt_Lt h B0_ B1_ B2_ G Tx Pg hs_ ++ (lt_St yI B0_ i0 a0 ++ lt_Pg yI Pg pi pa gs ch)) [0, 79, 80, 81, 82, 83, 84, 85, 86, 87, 88, 89, 90, 91, 92, 93, 94, 95, 96, 97, 100, 101, 102, 103, 104] rfl
            have hDc := hD.sub (ws' := lt_Lt h B0_ B1_ B2_ G Tx Pg hs_ ++ (lt_St yI B0_ i0 a0 ++ lt_Pg yI Pg pi pa gs ch)) [0, 79, 80, 81, 82, 83, 84, 85, 86, 87, 88, 89, 90, 91, 92, 93, 94, 95, 96, 97, 100, 101, 102, 103, 104] (by decide) rfl
            refine lt_cWi (wc := lt_Lt h B0_ B1_ B2_ G Tx Pg hs_ ++ (lt_St yI B0_ i0 a0 ++ lt_Pg yI Pg pi pa gs ch)) (wr := [(G 0, .inr (2, [.ref (G 1), .int z])), (G 1, .inl (yO, 4, .inr (.inr (.inr (.inr (fun k => some (Bh k 0))))))), ((Bh 0) 0, .inr (6, [.ref ((Bh 0) 1), .ref ((Bh 0) 8), .ref ((Bh 0) 17), .int (((Vh 0).1) 1), .int (((Vh 0).1) 8), .int (((Vh 0).1) 4), .int (((Vh 0).1) 5), .int (((Vh 0).1) 6), .int (((Vh 0).1) 7), .int (((Vh 0).1) 3)])), ((Bh 0) 1, .inr (0, [.ref ((Bh 0) 2), .ref ((Bh 0) 4), .ref ((Bh 0) 6), .int (((Vh 0).1) 0)])), ((Bh 0) 2, .inr (3, [.ref ((Bh 0) 3)])), ((Bh 0) 3, .inl (yI, 30, .inl (((Vh 0).2) 0))), ((Bh 0) 4, .inr (3, [.ref ((Bh 0) 5)])), ((Bh 0) 5, .inl (yI, 30, .inl (((Vh 0).2) 1))), ((Bh 0) 6, .inr (3, [.ref ((Bh 0) 7)])), ((Bh 0) 7, .inl (yI, 60, .inl (((Vh 0).2) 2))), ((Bh 0) 8, .inr (5, [.ref ((Bh 0) 9), .ref ((Bh 0) 11), .ref ((Bh 0) 13), .ref ((Bh 0) 15), .int (((Vh 0).1) 2)])), ((Bh 0) 9, .inr (3, [.ref ((Bh 0) 10)])), ((Bh 0) 10, .inl (yI, 80, .inl (((Vh 0).2) 3))), ((Bh 0) 11, .inr (3, [.ref ((Bh 0) 12)])), ((Bh 0) 12, .inl (yI, 80, .inl (((Vh 0).2) 4))), ((Bh 0) 13, .inr (3, [.ref ((Bh 0) 14)])), ((Bh 0) 14, .inl (yI, 80, .inl (((Vh 0).2) 5))), ((Bh 0) 15, .inr (3, [.ref ((Bh 0) 16)])), ((Bh 0) 16, .inl (yI, 80, .inl (((Vh 0).2) 6))), ((Bh 0) 17, .inr (3, [.ref ((Bh 0) 18)])), ((Bh 0) 18, .inl (yI, 3, .inl (((Vh 0).2) 7))), ((Bh 1) 0, .inr (6, [.ref ((Bh 1) 1), .ref ((Bh 1) 8), .ref ((Bh 1) 17), .int (((Vh 1).1) 1), .int (((Vh 1).1) 8), .int (((Vh 1).1) 4), .int (((Vh 1).1) 5), .int (((Vh 1).1) 6), .int (((Vh 1).1) 7), .int (((Vh 1).1) 3)])), ((Bh 1) 1, .inr (0, [.ref ((Bh 1) 2), .ref ((Bh 1) 4), .ref ((Bh 1) 6), .int (((Vh 1).1) 0)])), ((Bh 1) 2, .inr (3, [.ref ((Bh 1) 3)])), ((Bh 1) 3, .inl (yI, 30, .inl (((Vh 1).2) 0))), ((Bh 1) 4, .inr (3, [.ref ((Bh 1) 5)])), ((Bh 1) 5, .inl (yI, 30, .inl (((Vh 1).2) 1))), ((Bh 1) 6, .inr (3, [.ref ((Bh 1) 7)])), ((Bh 1) 7, .inl (yI, 60, .inl (((Vh 1).2) 2))), ((Bh 1) 8, .inr (5, [.ref ((Bh 1) 9), .ref ((Bh 1) 11), .ref ((Bh 1) 13), .ref ((Bh 1) 15), .int (((Vh 1).1) 2)])), ((Bh 1) 9, .inr (3, [.ref ((Bh 1) 10)])), ((Bh 1) 10, .inl (yI, 80, .inl (((Vh 1).2) 3))), ((Bh 1) 11, .inr (3, [.ref ((Bh 1) 12)])), ((Bh 1) 12, .inl (yI, 80, .inl (((Vh 1).2) 4))), ((Bh 1) 13, .inr (3, [.ref ((Bh 1) 14)])), ((Bh 1) 14, .inl (yI, 80, .inl (((Vh 1).2) 5))), ((Bh 1) 15, .inr (3, [.ref ((Bh 1) 16)])), ((Bh 1) 16, .inl (yI, 80, .inl (((Vh 1).2) 6))), ((Bh 1) 17, .inr (3, [.ref ((Bh 1) 18)])), ((Bh 1) 18, .inl (yI, 3, .inl (((Vh 1).2) 7))), ((Bh 2) 0, .inr (6, [.ref ((Bh 2) 1), .ref ((Bh 2) 8), .ref ((Bh 2) 17), .int (((Vh 2).1) 1), .int (((Vh 2).1) 8), .int (((Vh 2).1) 4), .int (((Vh 2).1) 5), .int (((Vh 2).1) 6), .int (((Vh 2).1) 7), .int (((Vh 2).1) 3)])), ((Bh 2) 1, .inr (0, [.ref ((Bh 2) 2), .ref ((Bh 2) 4), .ref ((Bh 2) 6), .int (((Vh 2).1) 0)])), ((Bh 2) 2, .inr (3, [.ref ((Bh 2) 3)])), ((Bh 2) 3, .inl (yI, 30, .inl (((Vh 2).2) 0))), ((Bh 2) 4, .inr (3, [.ref ((Bh 2) 5)])), ((Bh 2) 5, .inl (yI, 30, .inl (((Vh 2).2) 1))), ((Bh 2) 6, .inr (3, [.ref ((Bh 2) 7)])), ((Bh 2) 7, .inl (yI, 60, .inl (((Vh 2).2) 2))), ((Bh 2) 8, .inr (5, [.ref ((Bh 2) 9), .ref ((Bh 2) 11), .ref ((Bh 2) 13), .ref ((Bh 2) 15), .int (((Vh 2).1) 2)])), ((Bh 2) 9, .inr (3, [.ref ((Bh 2) 10)])), ((Bh 2) 10, .inl (yI, 80, .inl (((Vh 2).2) 3))), ((Bh 2) 11, .inr (3, [.ref ((Bh 2) 12)])), ((Bh 2) 12, .inl (yI, 80, .inl (((Vh 2).2) 4))), ((Bh 2) 13, .inr (3, [.ref ((Bh 2) 14)])), ((Bh 2) 14, .inl (yI, 80, .inl (((Vh 2).2) 5))), ((Bh 2) 15, .inr (3, [.ref ((Bh 2) 16)])), ((Bh 2) 16, .inl (yI, 80, .inl (((Vh 2).2) 6))), ((Bh 2) 17, .inr (3, [.ref ((Bh 2) 18)])), ((Bh 2) 18, .inl (yI, 3, .inl (((Vh 2).2) 7))), ((Bh 3) 0, .inr (6, [.ref ((Bh 3) 1), .ref ((Bh 3) 8), .ref ((Bh 3) 17), .int (((Vh 3).1) 1), .int (((Vh 3).1) 8), .int (((Vh 3).1) 4), .int (((Vh 3).1) 5), .int (((Vh 3).1) 6), .int (((Vh 3).1) 7), .int (((Vh 3).1) 3)])), ((Bh 3) 1, .inr (0, [.ref ((Bh 3) 2), .ref ((Bh 3) 4), .ref ((Bh 3) 6), .int (((Vh 3).1) 0)])), ((Bh 3) 2, .inr (3, [.ref ((Bh 3) 3)])), ((Bh 3) 3, .inl (yI, 30, .inl (((Vh 3).2) 0))), ((Bh 3) 4, .inr (3, [.ref ((Bh 3) 5)])), ((Bh 3) 5, .inl (yI, 30, .inl (((Vh 3).2) 1))), ((Bh 3) 6, .inr (3, [.ref ((Bh 3) 7)])), ((Bh 3) 7, .inl (yI, 60, .inl (((Vh 3).2) 2))), ((Bh 3) 8, .inr (5, [.ref ((Bh 3) 9), .ref ((Bh 3) 11), .ref ((Bh 3) 13), .ref ((Bh 3) 15), .int (((Vh 3).1) 2)])), ((Bh 3) 9, .inr (3, [.ref ((Bh 3) 10)])), ((Bh 3) 10, .inl (yI, 80, .inl (((Vh 3).2) 3))), ((Bh 3) 11, .inr (3, [.ref ((Bh 3) 12)])), ((Bh 3) 12, .inl (yI, 80, .inl (((Vh 3).2) 4))), ((Bh 3) 13, .inr (3, [.ref ((Bh 3) 14)])), ((Bh 3) 14, .inl (yI, 80, .inl (((Vh 3).2) 5))), ((Bh 3) 15, .inr (3, [.ref ((Bh 3) 16)])), ((Bh 3) 16, .inl (yI, 80, .inl (((Vh 3).2) 6))), ((Bh 3) 17, .inr (3, [.ref ((Bh 3) 18)])), ((Bh 3) 18, .inl (yI, 3, .inl (((Vh 3).2) 7))), (Tx 0, .inr (1, [.ref (Tx 1), .int len])), (Tx 1, .inl (yC, 60, .inl sg))]) (va_runV (As := [.int p0]) (rest := []) ⟨hx, hb, hml, hown, hts⟩ (c_X7_countInSet l D yI yC yO h B0_ B1_ B2_ G Tx Pg hs_ i0 a0 pi pa gs ch p0 _ ) (cwV 1 hts gX7_count_X7_countInSet rfl rfl rfl (by decide +kernel) ⟨Nat.le_of_ble_eq_true rfl, Nat.le_of_ble_eq_true rfl⟩) (lt_qV hK0 hPc hDc (va_recv hK hPc (ci := 7) (q0 := 0) rfl rfl)) rfl rfl hl.1 rfl (lv_room (Nat.le_of_ble_eq_true rfl)) dX7_count_116 ⟨Nat.zero_le _, Nat.zero_le _⟩) hP hD hS hA [0, 79, 80, 81, 82, 83, 84, 85, 86, 87, 88, 89, 90, 91, 92, 93, 94, 95, 96, 97, 100, 101, 102, 103, 104] [1, 2, 3, 4, 5, 6, 7, 8, 9, 10, 11, 12, 13, 14, 15, 16, 17, 18, 19, 20, 21, 22, 23, 24, 25, 26, 27, 28, 29, 30, 31, 32, 33, 34, 35, 36, 37, 38, 39, 40, 41, 42, 43, 44, 45, 46, 47, 48, 49, 50, 51, 52, 53, 54, 55, 56, 57, 58, 59, 60, 61, 62, 63, 64, 65, 66, 67, 68, 69, 70, 71, 72, 73, 74, 75, 76, 77, 78, 98, 99] rfl rfl (by decide) (by decide) (fun x_116 e_x_116 H locs hP hD hS => ?_)
            have hP := hP.sub (ws' := lt_Lt h B0_ B1_ B2_ G Tx Pg hs_ ++ (lt_Hi yI yO G z Bh Vh ++ (lt_St yI B0_ i0 a0 ++ (lt_Tx yC Tx len sg ++ lt_Pg yI Pg x_116.2.1 x_116.2.2.1 x_116.2.2.2.1 x_116.2.2.2.2)))) [80, 0, 1, 2, 3, 4, 5, 6, 7, 8, 9, 10, 11, 12, 13, 14, 15, 16, 17, 18, 19, 20, 21, 22, 23, 24, 25, 26, 27, 28, 29, 30, 31, 32, 33, 34, 35, 36, 37, 38, 39, 40, 41, 42, 43, 44, 45, 46, 47, 48, 49, 50, 51, 52, 53, 54, 55, 56, 57, 58, 59, 60, 61, 62, 63, 64, 65, 66, 67, 68, 69, 70, 71, 72, 73, 74, 75, 76, 77, 81, 82, 83, 84, 85, 86, 87, 88, 89, 90, 91, 92, 93, 94, 95, 96, 97, 98, 99, 78, 79, 100, 101, 102, 103, 104] rfl
            have hD := hD.sub (ws' := lt_Lt h B0_ B1_ B2_ G Tx Pg hs_ ++ (lt_Hi yI yO G z Bh Vh ++ (lt_St yI B0_ i0 a0 ++ (lt_Tx yC Tx len sg ++ lt_Pg yI Pg x_116.2.1 x_116.2.2.1 x_116.2.2.2.1 x_116.2.2.2.2)))) [80, 0, 1, 2, 3, 4, 5, 6, 7, 8, 9, 10, 11, 12, 13, 14, 15, 16, 17, 18, 19, 20, 21, 22, 23, 24, 25, 26, 27, 28, 29, 30, 31, 32, 33, 34, 35, 36, 37, 38, 39, 40, 41, 42, 43, 44, 45, 46, 47, 48, 49, 50, 51, 52, 53, 54, 55, 56, 57, 58, 59, 60, 61, 62, 63, 64, 65, 66, 67, 68, 69, 70, 71, 72, 73, 74, 75, 76, 77, 81, 82, 83, 84, 85, 86, 87, 88, 89, 90, 91, 92, 93, 94, 95, 96, 97, 98, 99, 78, 79, 100, 101, 102, 103, 104] (by decide) rfl
            exact W.iret (v := x_116.1) hx hb hret (fun t ht hW => ⟨⟨x_116.1, (x_116.2.1, x_116.2.2.1, x_116.2.2.2.1, x_116.2.2.2.2), rfl, (by subst e_x_116; exact (Eq.symm (Eq.trans (if_neg h_1_0) (Eq.trans (if_neg h_1_1) (Eq.trans (if_neg h_1_2) (Eq.trans (if_neg h_1_3) (Eq.trans (if_pos h_1_4) rfl))))))), by rw [ht]; exact hP, hD⟩, hS.F ht⟩) hS.2.2 dX7_count_119
          · rcases Decidable.em (p0 = 5) with h_1_5 | h_1_5
            · refine lv_tableIn (off := 113) (tgt := 114) hx hb dX7_count_1 (by rw [h_1_5]; decide) (by rw [h_1_5]; decide) (by rw [h_1_5]; rfl) (by decide) ?_
              refine lv_aload_n hx hb dX7_count_114 rfl (lv_at hl 0 rfl) ?_
              refine lv_iload_n hx hb dX7_count_115 rfl (lv_at hl 1 rfl) ?_
              have hPc := hP.sub (ws' := lt_Lt h B0_ B1_ B2_ G Tx Pg hs_ ++ (lt_St yI B0_ i0 a0 ++ lt_Pg yI Pg pi pa gs ch)) [0, 79, 80, 81, 82, 83, 84, 85, 86, 87, 88, 89, 90, 91, 92, 93, 94, 95, 96, 97, 100, 101, 102, 103, 104] rfl
              have hDc := hD.sub (ws' := lt_Lt h B0_ B1_ B2_ G Tx Pg hs_ ++ (lt_St yI B0_ i0 a0 ++ lt_Pg yI Pg pi pa gs ch)) [0, 79, 80, 81, 82, 83, 84, 85, 86, 87, 88, 89, 90, 91, 92, 93, 94, 95, 96, 97, 100, 101, 102, 103, 104] (by decide) rfl
              refine lt_cWi (wc := lt_Lt h B0_ B1_ B2_ G Tx Pg hs_ ++ (lt_St yI B0_ i0 a0 ++ lt_Pg yI Pg pi pa gs ch)) (wr := [(G 0, .inr (2, [.ref (G 1), .int z])), (G 1, .inl (yO, 4, .inr (.inr (.inr (.inr (fun k => some (Bh k 0))))))), ((Bh 0) 0, .inr (6, [.ref ((Bh 0) 1), .ref ((Bh 0) 8), .ref ((Bh 0) 17), .int (((Vh 0).1) 1), .int (((Vh 0).1) 8), .int (((Vh 0).1) 4), .int (((Vh 0).1) 5), .int (((Vh 0).1) 6), .int (((Vh 0).1) 7), .int (((Vh 0).1) 3)])), ((Bh 0) 1, .inr (0, [.ref ((Bh 0) 2), .ref ((Bh 0) 4), .ref ((Bh 0) 6), .int (((Vh 0).1) 0)])), ((Bh 0) 2, .inr (3, [.ref ((Bh 0) 3)])), ((Bh 0) 3, .inl (yI, 30, .inl (((Vh 0).2) 0))), ((Bh 0) 4, .inr (3, [.ref ((Bh 0) 5)])), ((Bh 0) 5, .inl (yI, 30, .inl (((Vh 0).2) 1))), ((Bh 0) 6, .inr (3, [.ref ((Bh 0) 7)])), ((Bh 0) 7, .inl (yI, 60, .inl (((Vh 0).2) 2))), ((Bh 0) 8, .inr (5, [.ref ((Bh 0) 9), .ref ((Bh 0) 11), .ref ((Bh 0) 13), .ref ((Bh 0) 15), .int (((Vh 0).1) 2)])), ((Bh 0) 9, .inr (3, [.ref ((Bh 0) 10)])), ((Bh 0) 10, .inl (yI, 80, .inl (((Vh 0).2) 3))), ((Bh 0) 11, .inr (3, [.ref ((Bh 0) 12)])), ((Bh 0) 12, .inl (yI, 80, .inl (((Vh 0).2) 4))), ((Bh 0) 13, .inr (3, [.ref ((Bh 0) 14)])), ((Bh 0) 14, .inl (yI, 80, .inl (((Vh 0).2) 5))), ((Bh 0) 15, .inr (3, [.ref ((Bh 0) 16)])), ((Bh 0) 16, .inl (yI, 80, .inl (((Vh 0).2) 6))), ((Bh 0) 17, .inr (3, [.ref ((Bh 0) 18)])), ((Bh 0) 18, .inl (yI, 3, .inl (((Vh 0).2) 7))), ((Bh 1) 0, .inr (6, [.ref ((Bh 1) 1), .ref ((Bh 1) 8), .ref ((Bh 1) 17), .int (((Vh 1).1) 1), .int (((Vh 1).1) 8), .int (((Vh 1).1) 4), .int (((Vh 1).1) 5), .int (((Vh 1).1) 6), .int (((Vh 1).1) 7), .int (((Vh 1).1) 3)])), ((Bh 1) 1, .inr (0, [.ref ((Bh 1) 2), .ref ((Bh 1) 4), .ref ((Bh 1) 6), .int (((Vh 1).1) 0)])), ((Bh 1) 2, .inr (3, [.ref ((Bh 1) 3)])), ((Bh 1) 3, .inl (yI, 30, .inl (((Vh 1).2) 0))), ((Bh 1) 4, .inr (3, [.ref ((Bh 1) 5)])), ((Bh 1) 5, .inl (yI, 30, .inl (((Vh 1).2) 1))), ((Bh 1) 6, .inr (3, [.ref ((Bh 1) 7)])), ((Bh 1) 7, .inl (yI, 60, .inl (((Vh 1).2) 2))), ((Bh 1) 8, .inr (5, [.ref ((Bh 1) 9), .ref ((Bh 1) 11), .ref ((Bh 1) 13), .ref ((Bh 1) 15), .int (((Vh 1).1) 2)])), ((Bh 1) 9, .inr (3, [.ref ((Bh 1) 10)])), ((Bh 1) 10, .inl (yI, 80, .inl (((Vh 1).2) 3))), ((Bh 1) 11, .inr (3, [.ref ((Bh 1) 12)])), ((Bh 1) 12, .inl (yI, 80, .inl (((Vh 1).2) 4))), ((Bh 1) 13, .inr (3, [.ref ((Bh 1) 14)])), ((Bh 1) 14, .inl (yI, 80, .inl (((Vh 1).2) 5))), ((Bh 1) 15, .inr (3, [.ref ((Bh 1) 16)])), ((Bh 1) 16, .inl (yI, 80, .inl (((Vh 1).2) 6))), ((Bh 1) 17, .inr (3, [.ref ((Bh 1) 18)])), ((Bh 1) 18, .inl (yI, 3, .inl (((Vh 1).2) 7))), ((Bh 2) 0, .inr (6, [.ref ((Bh 2) 1), .ref ((Bh 2) 8), .ref ((Bh 2) 17), .int (((Vh 2).1) 1), .int (((Vh 2).1) 8), .int (((Vh 2).1) 4), .int (((Vh 2).1) 5), .int (((Vh 2).1) 6), .int (((Vh 2).1) 7), .int (((Vh 2).1) 3)])), ((Bh 2) 1, .inr (0, [.ref ((Bh 2) 2), .ref ((Bh 2) 4), .ref ((Bh 2) 6), .int (((Vh 2).1) 0)])), ((Bh 2) 2, .inr (3, [.ref ((Bh 2) 3)])), ((Bh 2) 3, .inl (yI, 30, .inl (((Vh 2).2) 0))), ((Bh 2) 4, .inr (3, [.ref ((Bh 2) 5)])), ((Bh 2) 5, .inl (yI, 30, .inl (((Vh 2).2) 1))), ((Bh 2) 6, .inr (3, [.ref ((Bh 2) 7)])), ((Bh 2) 7, .inl (yI, 60, .inl (((Vh 2).2) 2))), ((Bh 2) 8, .inr (5, [.ref ((Bh 2) 9), .ref ((Bh 2) 11), .ref ((Bh 2) 13), .ref ((Bh 2) 15), .int (((Vh 2).1) 2)])), ((Bh 2) 9, .inr (3, [.ref ((Bh 2) 10)])), ((Bh 2) 10, .inl (yI, 80, .inl (((Vh 2).2) 3))), ((Bh 2) 11, .inr (3, [.ref ((Bh 2) 12)])), ((Bh 2) 12, .inl (yI, 80, .inl (((Vh 2).2) 4))), ((Bh 2) 13, .inr (3, [.ref ((Bh 2) 14)])), ((Bh 2) 14, .inl (yI, 80, .inl (((Vh 2).2) 5))), ((Bh 2) 15, .inr (3, [.ref ((Bh 2) 16)])), ((Bh 2) 16, .inl (yI, 80, .inl (((Vh 2).2) 6))), ((Bh 2) 17, .inr (3, [.ref ((Bh 2) 18)])), ((Bh 2) 18, .inl (yI, 3, .inl (((Vh 2).2) 7))), ((Bh 3) 0, .inr (6, [.ref ((Bh 3) 1), .ref ((Bh 3) 8), .ref ((Bh 3) 17), .int (((Vh 3).1) 1), .int (((Vh 3).1) 8), .int (((Vh 3).1) 4), .int (((Vh 3).1) 5), .int (((Vh 3).1) 6), .int (((Vh 3).1) 7), .int (((Vh 3).1) 3)])), ((Bh 3) 1, .inr (0, [.ref ((Bh 3) 2), .ref ((Bh 3) 4), .ref ((Bh 3) 6), .int (((Vh 3).1) 0)])), ((Bh 3) 2, .inr (3, [.ref ((Bh 3) 3)])), ((Bh 3) 3, .inl (yI, 30, .inl (((Vh 3).2) 0))), ((Bh 3) 4, .inr (3, [.ref ((Bh 3) 5)])), ((Bh 3) 5, .inl (yI, 30, .inl (((Vh 3).2) 1))), ((Bh 3) 6, .inr (3, [.ref ((Bh 3) 7)])), ((Bh 3) 7, .inl (yI, 60, .inl (((Vh 3).2) 2))), ((Bh 3) 8, .inr (5, [.ref ((Bh 3) 9), .ref ((Bh 3) 11), .ref ((Bh 3) 13), .ref ((Bh 3) 15), .int (((Vh 3).1) 2)])), ((Bh 3) 9, .inr (3, [.ref ((Bh 3) 10)])), ((Bh 3) 10, .inl (yI, 80, .inl (((Vh 3).2) 3))), ((Bh 3) 11, .inr (3, [.ref ((Bh 3) 12)])), ((Bh 3) 12, .inl (yI, 80, .inl (((Vh 3).2) 4))), ((Bh 3) 13, .inr (3, [.ref ((Bh 3) 14)])), ((Bh 3) 14, .inl (yI, 80, .inl (((Vh 3).2) 5))), ((Bh 3) 15, .inr (3, [.ref ((Bh 3) 16)])), ((Bh 3) 16, .inl (yI, 80, .inl (((Vh 3).2) 6))), ((Bh 3) 17, .inr (3, [.ref ((Bh 3) 18)])), ((Bh 3) 18, .inl (yI, 3, .inl (((Vh 3).2) 7))), (Tx 0, .inr (1, [.ref (Tx 1), .int len])), (Tx 1, .inl (yC, 60, .inl sg))]) (va_runV (As := [.int p0]) (rest := []) ⟨hx, hb, hml, hown, hts⟩ (c_X7_countInSet l D yI yC yO h B0_ B1_ B2_ G Tx Pg hs_ i0 a0 pi pa gs ch p0 _ ) (cwV 1 hts gX7_count_X7_countInSet rfl rfl rfl (by decide +kernel) ⟨Nat.le_of_ble_eq_true rfl, Nat.le_of_ble_eq_true rfl⟩) (lt_qV hK0 hPc hDc (va_recv hK hPc (ci := 7) (q0 := 0) rfl rfl)) rfl rfl hl.1 rfl (lv_room (Nat.le_of_ble_eq_true rfl)) dX7_count_116 ⟨Nat.zero_le _, Nat.zero_le _⟩) hP hD hS hA [0, 79, 80, 81, 82, 83, 84, 85, 86, 87, 88, 89, 90, 91, 92, 93, 94, 95, 96, 97, 100, 101, 102, 103, 104] [1, 2, 3, 4, 5, 6, 7, 8, 9, 10, 11, 12, 13, 14, 15, 16, 17, 18, 19, 20, 21, 22, 23, 24, 25, 26, 27, 28, 29, 30, 31, 32, 33, 34, 35, 36, 37, 38, 39, 40, 41, 42, 43, 44, 45, 46, 47, 48, 49, 50, 51, 52, 53, 54, 55, 56, 57, 58, 59, 60, 61, 62, 63, 64, 65, 66, 67, 68, 69, 70, 71, 72, 73, 74, 75, 76, 77, 78, 98, 99] rfl rfl (by decide) (by decide) (fun x_116 e_x_116 H locs hP hD hS => ?_)
              have hP := hP.sub (ws' := lt_Lt h B0_ B1_ B2_ G Tx Pg hs_ ++ (lt_Hi yI yO G z Bh Vh ++ (lt_St yI B0_ i0 a0 ++ (lt_Tx yC Tx len sg ++ lt_Pg yI Pg x_116.2.1 x_116.2.2.1 x_116.2.2.2.1 x_116.2.2.2.2)))) [80, 0, 1, 2, 3, 4, 5, 6, 7, 8, 9, 10, 11, 12, 13, 14, 15, 16, 17, 18, 19, 20, 21, 22, 23, 24, 25, 26, 27, 28, 29, 30, 31, 32, 33, 34, 35, 36, 37, 38, 39, 40, 41, 42, 43, 44, 45, 46, 47, 48, 49, 50, 51, 52, 53, 54, 55, 56, 57, 58, 59, 60, 61, 62, 63, 64, 65, 66, 67, 68, 69, 70, 71, 72, 73, 74, 75, 76, 77, 81, 82, 83, 84, 85, 86, 87, 88, 89, 90, 91, 92, 93, 94, 95, 96, 97, 98, 99, 78, 79, 100, 101, 102, 103, 104] rfl
              have hD := hD.sub (ws' := lt_Lt h B0_ B1_ B2_ G Tx Pg hs_ ++ (lt_Hi yI yO G z Bh Vh ++ (lt_St yI B0_ i0 a0 ++ (lt_Tx yC Tx len sg ++ lt_Pg yI Pg x_116.2.1 x_116.2.2.1 x_116.2.2.2.1 x_116.2.2.2.2)))) [80, 0, 1, 2, 3, 4, 5, 6, 7, 8, 9, 10, 11, 12, 13, 14, 15, 16, 17, 18, 19, 20, 21, 22, 23, 24, 25, 26, 27, 28, 29, 30, 31, 32, 33, 34, 35, 36, 37, 38, 39, 40, 41, 42, 43, 44, 45, 46, 47, 48, 49, 50, 51, 52, 53, 54, 55, 56, 57, 58, 59, 60, 61, 62, 63, 64, 65, 66, 67, 68, 69, 70, 71, 72, 73, 74, 75, 76, 77, 81, 82, 83, 84, 85, 86, 87, 88, 89, 90, 91, 92, 93, 94, 95, 96, 97, 98, 99, 78, 79, 100, 101, 102, 103, 104] (by decide) rfl
              exact W.iret (v := x_116.1) hx hb hret (fun t ht hW => ⟨⟨x_116.1, (x_116.2.1, x_116.2.2.1, x_116.2.2.2.1, x_116.2.2.2.2), rfl, (by subst e_x_116; exact (Eq.symm (Eq.trans (if_neg h_1_0) (Eq.trans (if_neg h_1_1) (Eq.trans (if_neg h_1_2) (Eq.trans (if_neg h_1_3) (Eq.trans (if_neg h_1_4) (Eq.trans (if_pos h_1_5) rfl)))))))), by rw [ht]; exact hP, hD⟩, hS.F ht⟩) hS.2.2 dX7_count_119
            · rcases Decidable.em (p0 = 6) with h_1_6 | h_1_6
              · refine lv_tableIn (off := 113) (tgt := 114) hx hb dX7_count_1 (by rw [h_1_6]; decide) (by rw [h_1_6]; decide) (by rw [h_1_6]; rfl) (by decide) ?_
                refine lv_aload_n hx hb dX7_count_114 rfl (lv_at hl 0 rfl) ?_
                refine lv_iload_n hx hb dX7_count_115 rfl (lv_at hl 1 rfl) ?_
                have hPc := hP.sub (ws' := lt_Lt h B0_ B1_ B2_ G Tx Pg hs_ ++ (lt_St yI B0_ i0 a0 ++ lt_Pg yI Pg pi pa gs ch)) [0, 79, 80, 81, 82, 83, 84, 85, 86, 87, 88, 89, 90, 91, 92, 93, 94, 95, 96, 97, 100, 101, 102, 103, 104] rfl
                have hDc := hD.sub (ws' := lt_Lt h B0_ B1_ B2_ G Tx Pg hs_ ++ (lt_St yI B0_ i0 a0 ++ lt_Pg yI Pg pi pa gs ch)) [0, 79, 80, 81, 82, 83, 84, 85, 86, 87, 88, 89, 90, 91, 92, 93, 94, 95, 96, 97, 100, 101, 102, 103, 104] (by decide) rfl
                refine lt_cWi (wc := lt_Lt h B0_ B1_ B2_ G Tx Pg hs_ ++ (lt_St yI B0_ i0 a0 ++ lt_Pg yI Pg pi pa gs ch)) (wr := [(G 0, .inr (2, [.ref (G 1), .int z])), (G 1, .inl (yO, 4, .inr (.inr (.inr (.inr (fun k => some (Bh k 0))))))), ((Bh 0) 0, .inr (6, [.ref ((Bh 0) 1), .ref ((Bh 0) 8), .ref ((Bh 0) 17), .int (((Vh 0).1) 1), .int (((Vh 0).1) 8), .int (((Vh 0).1) 4), .int (((Vh 0).1) 5), .int (((Vh 0).1) 6), .int (((Vh 0).1) 7), .int (((Vh 0).1) 3)])), ((Bh 0) 1, .inr (0, [.ref ((Bh 0) 2), .ref ((Bh 0) 4), .ref ((Bh 0) 6), .int (((Vh 0).1) 0)])), ((Bh 0) 2, .inr (3, [.ref ((Bh 0) 3)])), ((Bh 0) 3, .inl (yI, 30, .inl (((Vh 0).2) 0))), ((Bh 0) 4, .inr (3, [.ref ((Bh 0) 5)])), ((Bh 0) 5, .inl (yI, 30, .inl (((Vh 0).2) 1))), ((Bh 0) 6, .inr (3, [.ref ((Bh 0) 7)])), ((Bh 0) 7, .inl (yI, 60, .inl (((Vh 0).2) 2))), ((Bh 0) 8, .inr (5, [.ref ((Bh 0) 9), .ref ((Bh 0) 11), .ref ((Bh 0) 13), .ref ((Bh 0) 15), .int (((Vh 0).1) 2)])), ((Bh 0) 9, .inr (3, [.ref ((Bh 0) 10)])), ((Bh 0) 10, .inl (yI, 80, .inl (((Vh 0).2) 3))), ((Bh 0) 11, .inr (3, [.ref ((Bh 0) 12)])), ((Bh 0) 12, .inl (yI, 80, .inl (((Vh 0).2) 4))), ((Bh 0) 13, .inr (3, [.ref ((Bh 0) 14)])), ((Bh 0) 14, .inl (yI, 80, .inl (((Vh 0).2) 5))), ((Bh 0) 15, .inr (3, [.ref ((Bh 0) 16)])), ((Bh 0) 16, .inl (yI, 80, .inl (((Vh 0).2) 6))), ((Bh 0) 17, .inr (3, [.ref ((Bh 0) 18)])), ((Bh 0) 18, .inl (yI, 3, .inl (((Vh 0).2) 7))), ((Bh 1) 0, .inr (6, [.ref ((Bh 1) 1), .ref ((Bh 1) 8), .ref ((Bh 1) 17), .int (((Vh 1).1) 1), .int (((Vh 1).1) 8), .int (((Vh 1).1) 4), .int (((Vh 1).1) 5), .int (((Vh 1).1) 6), .int (((Vh 1).1) 7), .int (((Vh 1).1) 3)])), ((Bh 1) 1, .inr (0, [.ref ((Bh 1) 2), .ref ((Bh 1) 4), .ref ((Bh 1) 6), .int (((Vh 1).1) 0)])), ((Bh 1) 2, .inr (3, [.ref ((Bh 1) 3)])), ((Bh 1) 3, .inl (yI, 30, .inl (((Vh 1).2) 0))), ((Bh 1) 4, .inr (3, [.ref ((Bh 1) 5)])), ((Bh 1) 5, .inl (yI, 30, .inl (((Vh 1).2) 1))), ((Bh 1) 6, .inr (3, [.ref ((Bh 1) 7)])), ((Bh 1) 7, .inl (yI, 60, .inl (((Vh 1).2) 2))), ((Bh 1) 8, .inr (5, [.ref ((Bh 1) 9), .ref ((Bh 1) 11), .ref ((Bh 1) 13), .ref ((Bh 1) 15), .int (((Vh 1).1) 2)])), ((Bh 1) 9, .inr (3, [.ref ((Bh 1) 10)])), ((Bh 1) 10, .inl (yI, 80, .inl (((Vh 1).2) 3))), ((Bh 1) 11, .inr (3, [.ref ((Bh 1) 12)])), ((Bh 1) 12, .inl (yI, 80, .inl (((Vh 1).2) 4))), ((Bh 1) 13, .inr (3, [.ref ((Bh 1) 14)])), ((Bh 1) 14, .inl (yI, 80, .inl (((Vh 1).2) 5))), ((Bh 1) 15, .inr (3, [.ref ((Bh 1) 16)])), ((Bh 1) 16, .inl (yI, 80, .inl (((Vh 1).2) 6))), ((Bh 1) 17, .inr (3, [.ref ((Bh 1) 18)])), ((Bh 1) 18, .inl (yI, 3, .inl (((Vh 1).2) 7))), ((Bh 2) 0, .inr (6, [.ref ((Bh 2) 1), .ref ((Bh 2) 8), .ref ((Bh 2) 17), .int (((Vh 2).1) 1), .int (((Vh 2).1) 8), .int (((Vh 2).1) 4), .int (((Vh 2).1) 5), .int (((Vh 2).1) 6), .int (((Vh 2).1) 7), .int (((Vh 2).1) 3)])), ((Bh 2) 1, .inr (0, [.ref ((Bh 2) 2), .ref ((Bh 2) 4), .ref ((Bh 2) 6), .int (((Vh 2).1) 0)])), ((Bh 2) 2, .inr (3, [.ref ((Bh 2) 3)])), ((Bh 2) 3, .inl (yI, 30, .inl (((Vh 2).2) 0))), ((Bh 2) 4, .inr (3, [.ref ((Bh 2) 5)])), ((Bh 2) 5, .inl (yI, 30, .inl (((Vh 2).2) 1))), ((Bh 2) 6, .inr (3, [.ref ((Bh 2) 7)])), ((Bh 2) 7, .inl (yI, 60, .inl (((Vh 2).2) 2))), ((Bh 2) 8, .inr (5, [.ref ((Bh 2) 9), .ref ((Bh 2) 11), .ref ((Bh 2) 13), .ref ((Bh 2) 15), .int (((Vh 2).1) 2)])), ((Bh 2) 9, .inr (3, [.ref ((Bh 2) 10)])), ((Bh 2) 10, .inl (yI, 80, .inl (((Vh 2).2) 3))), ((Bh 2) 11, .inr (3, [.ref ((Bh 2) 12)])), ((Bh 2) 12, .inl (yI, 80, .inl (((Vh 2).2) 4))), ((Bh 2) 13, .inr (3, [.ref ((Bh 2) 14)])), ((Bh 2) 14, .inl (yI, 80, .inl (((Vh 2).2) 5))), ((Bh 2) 15, .inr (3, [.ref ((Bh 2) 16)])), ((Bh 2) 16, .inl (yI, 80, .inl (((Vh 2).2) 6))), ((Bh 2) 17, .inr (3, [.ref ((Bh 2) 18)])), ((Bh 2) 18, .inl (yI, 3, .inl (((Vh 2).2) 7))), ((Bh 3) 0, .inr (6, [.ref ((Bh 3) 1), .ref ((Bh 3) 8), .ref ((Bh 3) 17), .int (((Vh 3).1) 1), .int (((Vh 3).1) 8), .int (((Vh 3).1) 4), .int (((Vh 3).1) 5), .int (((Vh 3).1) 6), .int (((Vh 3).1) 7), .int (((Vh 3).1) 3)])), ((Bh 3) 1, .inr (0, [.ref ((Bh 3) 2), .ref ((Bh 3) 4), .ref ((Bh 3) 6), .int (((Vh 3).1) 0)])), ((Bh 3) 2, .inr (3, [.ref ((Bh 3) 3)])), ((Bh 3) 3, .inl (yI, 30, .inl (((Vh 3).2) 0))), ((Bh 3) 4, .inr (3, [.ref ((Bh 3) 5)])), ((Bh 3) 5, .inl (yI, 30, .inl (((Vh 3).2) 1))), ((Bh 3) 6, .inr (3, [.ref ((Bh 3) 7)])), ((Bh 3) 7, .inl (yI, 60, .inl (((Vh 3).2) 2))), ((Bh 3) 8, .inr (5, [.ref ((Bh 3) 9), .ref ((Bh 3) 11), .ref ((Bh 3) 13), .ref ((Bh 3) 15), .int (((Vh 3).1) 2)])), ((Bh 3) 9, .inr (3, [.ref ((Bh 3) 10)])), ((Bh 3) 10, .inl (yI, 80, .inl (((Vh 3).2) 3))), ((Bh 3) 11, .inr (3, [.ref ((Bh 3) 12)])), ((Bh 3) 12, .inl (yI, 80, .inl (((Vh 3).2) 4))), ((Bh 3) 13, .inr (3, [.ref ((Bh 3) 14)])), ((Bh 3) 14, .inl (yI, 80, .inl (((Vh 3).2) 5))), ((Bh 3) 15, .inr (3, [.ref ((Bh 3) 16)])), ((Bh 3) 16, .inl (yI, 80, .inl (((Vh 3).2) 6))), ((Bh 3) 17, .inr (3, [.ref ((Bh 3) 18)])), ((Bh 3) 18, .inl (yI, 3, .inl (((Vh 3).2) 7))), (Tx 0, .inr (1, [.ref (Tx 1), .int len])), (Tx 1, .inl (yC, 60, .inl sg))]) (va_runV (As := [.int p0]) (rest := []) ⟨hx, hb, hml, hown, hts⟩ (c_X7_countInSet l D yI yC yO h B0_ B1_ B2_ G Tx Pg hs_ i0 a0 pi pa gs ch p0 _ ) (cwV 1 hts gX7_count_X7_countInSet rfl rfl rfl (by decide +kernel) ⟨Nat.le_of_ble_eq_true rfl, Nat.le_of_ble_eq_true rfl⟩) (lt_qV hK0 hPc hDc (va_recv hK hPc (ci := 7) (q0 := 0) rfl rfl)) rfl rfl hl.1 rfl (lv_room (Nat.le_of_ble_eq_true rfl)) dX7_count_116 ⟨Nat.zero_le _, Nat.zero_le _⟩) hP hD hS hA [0, 79, 80, 81, 82, 83, 84, 85, 86, 87, 88, 89, 90, 91, 92, 93, 94, 95, 96, 97, 100, 101, 102, 103, 104] [1, 2, 3, 4, 5, 6, 7, 8, 9, 10, 11, 12, 13, 14, 15, 16, 17, 18, 19, 20, 21, 22, 23, 24, 25, 26, 27, 28, 29, 30, 31, 32, 33, 34, 35, 36, 37, 38, 39, 40, 41, 42, 43, 44, 45, 46, 47, 48, 49, 50, 51, 52, 53, 54, 55, 56, 57, 58, 59, 60, 61, 62, 63, 64, 65, 66, 67, 68, 69, 70, 71, 72, 73, 74, 75, 76, 77, 78, 98, 99] rfl rfl (by decide) (by decide) (fun x_116 e_x_116 H locs hP hD hS => ?_)
                have hP := hP.sub (ws' := lt_Lt h B0_ B1_ B2_ G Tx Pg hs_ ++ (lt_Hi yI yO G z Bh Vh ++ (lt_St yI B0_ i0 a0 ++ (lt_Tx yC Tx len sg ++ lt_Pg yI Pg x_116.2.1 x_116.2.2.1 x_116.2.2.2.1 x_116.2.2.2.2)))) [80, 0, 1, 2, 3, 4, 5, 6, 7, 8, 9, 10, 11, 12, 13, 14, 15, 16, 17, 18, 19, 20, 21, 22, 23, 24, 25, 26, 27, 28, 29, 30, 31, 32, 33, 34, 35, 36, 37, 38, 39, 40, 41, 42, 43, 44, 45, 46, 47, 48, 49, 50, 51, 52, 53, 54, 55, 56, 57, 58, 59, 60, 61, 62, 63, 64, 65, 66, 67, 68, 69, 70, 71, 72, 73, 74, 75, 76, 77, 81, 82, 83, 84, 85, 86, 87, 88, 89, 90, 91, 92, 93, 94, 95, 96, 97, 98, 99, 78, 79, 100, 101, 102, 103, 104] rfl
                have hD := hD.sub (ws' := lt_Lt h B0_ B1_ B2_ G Tx Pg hs_ ++ (lt_Hi yI yO G z Bh Vh ++ (lt_St yI B0_ i0 a0 ++ (lt_Tx yC Tx len sg ++ lt_Pg yI Pg x_116.2.1 x_116.2.2.1 x_116.2.2.2.1 x_116.2.2.2.2)))) [80, 0, 1, 2, 3, 4, 5, 6, 7, 8, 9, 10, 11, 12, 13, 14, 15, 16, 17, 18, 19, 20, 21, 22, 23, 24, 25, 26, 27, 28, 29, 30, 31, 32, 33, 34, 35, 36, 37, 38, 39, 40, 41, 42, 43, 44, 45, 46, 47, 48, 49, 50, 51, 52, 53, 54, 55, 56, 57, 58, 59, 60, 61, 62, 63, 64, 65, 66, 67, 68, 69, 70, 71, 72, 73, 74, 75, 76, 77, 81, 82, 83, 84, 85, 86, 87, 88, 89, 90, 91, 92, 93, 94, 95, 96, 97, 98, 99, 78, 79, 100, 101, 102, 103, 104] (by decide) rfl
                exact W.iret (v := x_116.1) hx hb hret (fun t ht hW => ⟨⟨x_116.1, (x_116.2.1, x_116.2.2.1, x_116.2.2.2.1, x_116.2.2.2.2), rfl, (by subst e_x_116; exact (Eq.symm (Eq.trans (if_neg h_1_0) (Eq.trans (if_neg h_1_1) (Eq.trans (if_neg h_1_2) (Eq.trans (if_neg h_1_3) (Eq.trans (if_neg h_1_4) (Eq.trans (if_neg h_1_5) (Eq.trans (if_pos h_1_6) rfl))))))))), by rw [ht]; exact hP, hD⟩, hS.F ht⟩) hS.2.2 dX7_count_119
              · rcases Decidable.em (p0 = 7) with h_1_7 | h_1_7
                · refine lv_tableIn (off := 119) (tgt := 120) hx hb dX7_count_1 (by rw [h_1_7]; decide) (by rw [h_1_7]; decide) (by rw [h_1_7]; rfl) (by decide) ?_
                  refine lv_aload_n hx hb dX7_count_120 rfl (lv_at hl 0 rfl) ?_
                  refine va_get (D := D) (ci := 7) (v := .ref (B0_ 0)) (C := RX7) (T := TX7) (N := 7) hx hb hts iw_X7_count_7 hown hK hP 0 rfl rfl 0 (by decide) (hts (.fieldLink RX7 10 "LeafTurner" "now" "LLeafTurner$State;") (by decide +kernel)) (fun _ h9 => h9) rfl dX7_count_121 ?_
                  refine va_getN (D := D) (ci := 6) (v := .int (i0 4)) (C := RX6) (T := TX6) (N := 10) hx hb hts iw_X7_count_6 hown hK hP 79 rfl rfl 5 (by decide) (va_Nw.use rfl (hN _ lt_nw26)) (fun _ h9 => h9) rfl dX7_count_124 ?_
                  exact W.iret (v := (i0 4)) hx hb hret (fun t ht hW => ⟨⟨(i0 4), (pi, pa, gs, ch), rfl, (Eq.symm (Eq.trans (if_neg h_1_0) (Eq.trans (if_neg h_1_1) (Eq.trans (if_neg h_1_2) (Eq.trans (if_neg h_1_3) (Eq.trans (if_neg h_1_4) (Eq.trans (if_neg h_1_5) (Eq.trans (if_neg h_1_6) (Eq.trans (if_pos h_1_7) rfl))))))))), by rw [ht]; exact hP, hD⟩, hS.F ht⟩) hS.2.2 dX7_count_127
                · rcases Decidable.em (p0 = 8) with h_1_8 | h_1_8
                  · refine lv_tableIn (off := 127) (tgt := 128) hx hb dX7_count_1 (by rw [h_1_8]; decide) (by rw [h_1_8]; decide) (by rw [h_1_8]; rfl) (by decide) ?_
                    refine lv_aload_n hx hb dX7_count_128 rfl (lv_at hl 0 rfl) ?_
                    refine va_get (D := D) (ci := 7) (v := .ref (B0_ 0)) (C := RX7) (T := TX7) (N := 7) hx hb hts iw_X7_count_7 hown hK hP 0 rfl rfl 0 (by decide) (hts (.fieldLink RX7 10 "LeafTurner" "now" "LLeafTurner$State;") (by decide +kernel)) (fun _ h9 => h9) rfl dX7_count_129 ?_
                    refine va_getN (D := D) (ci := 6) (v := .int (i0 5)) (C := RX6) (T := TX6) (N := 10) hx hb hts iw_X7_count_6 hown hK hP 79 rfl rfl 6 (by decide) (va_Nw.use rfl (hN _ lt_nw27)) (fun _ h9 => h9) rfl dX7_count_132 ?_
                    exact W.iret (v := (i0 5)) hx hb hret (fun t ht hW => ⟨⟨(i0 5), (pi, pa, gs, ch), rfl, (Eq.symm (Eq.trans (if_neg h_1_0) (Eq.trans (if_neg h_1_1) (Eq.trans (if_neg h_1_2) (Eq.trans (if_neg h_1_3) (Eq.trans (if_neg h_1_4) (Eq.trans (if_neg h_1_5) (Eq.trans (if_neg h_1_6) (Eq.trans (if_neg h_1_7) (Eq.trans (if_pos h_1_8) rfl)))))))))), by rw [ht]; exact hP, hD⟩, hS.F ht⟩) hS.2.2 dX7_count_135
                  · rcases Decidable.em (p0 = 9) with h_1_9 | h_1_9
                    · refine lv_tableIn (off := 135) (tgt := 136) hx hb dX7_count_1 (by rw [h_1_9]; decide) (by rw [h_1_9]; decide) (by rw [h_1_9]; rfl) (by decide) ?_
                      refine lv_aload_n hx hb dX7_count_136 rfl (lv_at hl 0 rfl) ?_
                      refine va_get (D := D) (ci := 7) (v := .ref (B0_ 0)) (C := RX7) (T := TX7) (N := 7) hx hb hts iw_X7_count_7 hown hK hP 0 rfl rfl 0 (by decide) (hts (.fieldLink RX7 10 "LeafTurner" "now" "LLeafTurner$State;") (by decide +kernel)) (fun _ h9 => h9) rfl dX7_count_137 ?_
                      refine va_getN (D := D) (ci := 6) (v := .int (i0 6)) (C := RX6) (T := TX6) (N := 10) hx hb hts iw_X7_count_6 hown hK hP 79 rfl rfl 7 (by decide) (va_Nw.use rfl (hN _ lt_nw28)) (fun _ h9 => h9) rfl dX7_count_140 ?_
                      exact W.iret (v := (i0 6)) hx hb hret (fun t ht hW => ⟨⟨(i0 6), (pi, pa, gs, ch), rfl, (Eq.symm (Eq.trans (if_neg h_1_0) (Eq.trans (if_neg h_1_1) (Eq.trans (if_neg h_1_2) (Eq.trans (if_neg h_1_3) (Eq.trans (if_neg h_1_4) (Eq.trans (if_neg h_1_5) (Eq.trans (if_neg h_1_6) (Eq.trans (if_neg h_1_7) (Eq.trans (if_neg h_1_8) (Eq.trans (if_pos h_1_9) rfl))))))))))), by rw [ht]; exact hP, hD⟩, hS.F ht⟩) hS.2.2 dX7_count_143
                    · rcases Decidable.em (p0 = 10) with h_1_10 | h_1_10
                      · refine lv_tableIn (off := 143) (tgt := 144) hx hb dX7_count_1 (by rw [h_1_10]; decide) (by rw [h_1_10]; decide) (by rw [h_1_10]; rfl) (by decide) ?_
                        refine lv_aload_n hx hb dX7_count_144 rfl (lv_at hl 0 rfl) ?_
                        refine va_get (D := D) (ci := 7) (v := .ref (B0_ 0)) (C := RX7) (T := TX7) (N := 7) hx hb hts iw_X7_count_7 hown hK hP 0 rfl rfl 0 (by decide) (hts (.fieldLink RX7 10 "LeafTurner" "now" "LLeafTurner$State;") (by decide +kernel)) (fun _ h9 => h9) rfl dX7_count_145 ?_
                        refine va_getN (D := D) (ci := 6) (v := .int (i0 8)) (C := RX6) (T := TX6) (N := 10) hx hb hts iw_X7_count_6 hown hK hP 79 rfl rfl 4 (by decide) (va_Nw.use rfl (hN _ lt_nw25)) (fun _ h9 => h9) rfl dX7_count_148 ?_
                        exact W.iret (v := (i0 8)) hx hb hret (fun t ht hW => ⟨⟨(i0 8), (pi, pa, gs, ch), rfl, (Eq.symm (Eq.trans (if_neg h_1_0) (Eq.trans (if_neg h_1_1) (Eq.trans (if_neg h_1_2) (Eq.trans (if_neg h_1_3) (Eq.trans (if_neg h_1_4) (Eq.trans (if_neg h_1_5) (Eq.trans (if_neg h_1_6) (Eq.trans (if_neg h_1_7) (Eq.trans (if_neg h_1_8) (Eq.trans (if_neg h_1_9) (Eq.trans (if_pos h_1_10) rfl)))))))))))), by rw [ht]; exact hP, hD⟩, hS.F ht⟩) hS.2.2 dX7_count_151
                      · rcases Decidable.em (p0 = 11) with h_1_11 | h_1_11
                        · refine lv_tableIn (off := 151) (tgt := 152) hx hb dX7_count_1 (by rw [h_1_11]; decide) (by rw [h_1_11]; decide) (by rw [h_1_11]; rfl) (by decide) ?_
                          refine lv_aload_n hx hb dX7_count_152 rfl (lv_at hl 0 rfl) ?_
                          refine va_get (D := D) (ci := 7) (v := .ref (B0_ 0)) (C := RX7) (T := TX7) (N := 7) hx hb hts iw_X7_count_7 hown hK hP 0 rfl rfl 0 (by decide) (hts (.fieldLink RX7 10 "LeafTurner" "now" "LLeafTurner$State;") (by decide +kernel)) (fun _ h9 => h9) rfl dX7_count_153 ?_
                          refine va_getN (D := D) (ci := 6) (v := .ref (B0_ 17)) (C := RX6) (T := TX6) (N := 10) hx hb hts iw_X7_count_6 hown hK hP 79 rfl rfl 2 (by decide) (va_Nw.use rfl (hN _ lt_nw23)) (fun _ h9 => h9) rfl dX7_count_156 ?_
                          refine lv_iconst (v := 0) hx hb dX7_count_159 (by decide) ?_
                          have hPc := hP.sub (ws' := lt_N2 yI (B0_ 17) (B0_ 18) 3 (a0 7)) [96, 97] rfl
                          refine lt_cR (va_runV (As := [.int 0]) (rest := []) ⟨hx, hb, hml, hown, hts⟩ (c_X3_at l D yI yC yO (B0_ 17) (B0_ 18) 3 (a0 7) 0 (by decide)) (cwV 1 hts gX7_count_X3_at rfl rfl rfl (by decide +kernel) ⟨Nat.le_of_ble_eq_true rfl, Nat.le_of_ble_eq_true rfl⟩) (lt_pV hK0 hPc (va_recv hK hPc (ci := 3) (q0 := 0) rfl rfl)) rfl rfl hl.1 rfl (lv_room (Nat.le_of_ble_eq_true rfl)) dX7_count_160 ⟨Nat.zero_le _, Nat.zero_le _⟩) (fun r_160 e_r_160 => ?_)
                          exact W.iret (v := r_160) hx hb hret (fun t ht hW => ⟨⟨r_160, (pi, pa, gs, ch), rfl, (by subst e_r_160; exact (Eq.symm (Eq.trans (if_neg h_1_0) (Eq.trans (if_neg h_1_1) (Eq.trans (if_neg h_1_2) (Eq.trans (if_neg h_1_3) (Eq.trans (if_neg h_1_4) (Eq.trans (if_neg h_1_5) (Eq.trans (if_neg h_1_6) (Eq.trans (if_neg h_1_7) (Eq.trans (if_neg h_1_8) (Eq.trans (if_neg h_1_9) (Eq.trans (if_neg h_1_10) (Eq.trans (if_pos h_1_11) rfl)))))))))))))), by rw [ht]; exact hP, hD⟩, hS.F ht⟩) hS.2.2 dX7_count_163
                        · rcases Decidable.em (p0 = 12) with h_1_12 | h_1_12
                          · refine lv_tableIn (off := 163) (tgt := 164) hx hb dX7_count_1 (by rw [h_1_12]; decide) (by rw [h_1_12]; decide) (by rw [h_1_12]; rfl) (by decide) ?_
                            refine lv_aload_n hx hb dX7_count_164 rfl (lv_at hl 0 rfl) ?_
                            refine va_get (D := D) (ci := 7) (v := .ref (B0_ 0)) (C := RX7) (T := TX7) (N := 7) hx hb hts iw_X7_count_7 hown hK hP 0 rfl rfl 0 (by decide) (hts (.fieldLink RX7 10 "LeafTurner" "now" "LLeafTurner$State;") (by decide +kernel)) (fun _ h9 => h9) rfl dX7_count_165 ?_
                            refine va_getN (D := D) (ci := 6) (v := .ref (B0_ 17)) (C := RX6) (T := TX6) (N := 10) hx hb hts iw_X7_count_6 hown hK hP 79 rfl rfl 2 (by decide) (va_Nw.use rfl (hN _ lt_nw23)) (fun _ h9 => h9) rfl dX7_count_168 ?_
                            refine lv_iconst (v := 1) hx hb dX7_count_171 (by decide) ?_
                            have hPc := hP.sub (ws' := lt_N2 yI (B0_ 17) (B0_ 18) 3 (a0 7)) [96, 97] rfl
                            refine lt_cR (va_runV (As := [.int 1]) (rest := []) ⟨hx, hb, hml, hown, hts⟩ (c_X3_at l D yI yC yO (B0_ 17) (B0_ 18) 3 (a0 7) 1 (by decide)) (cwV 1 hts gX7_count_X3_at rfl rfl rfl (by decide +kernel) ⟨Nat.le_of_ble_eq_true rfl, Nat.le_of_ble_eq_true rfl⟩) (lt_pV hK0 hPc (va_recv hK hPc (ci := 3) (q0 := 0) rfl rfl)) rfl rfl hl.1 rfl (lv_room (Nat.le_of_ble_eq_true rfl)) dX7_count_172 ⟨Nat.zero_le _, Nat.zero_le _⟩) (fun r_172 e_r_172 => ?_)
                            exact W.iret (v := r_172) hx hb hret (fun t ht hW => ⟨⟨r_172, (pi, pa, gs, ch), rfl, (by subst e_r_172; exact (Eq.symm (Eq.trans (if_neg h_1_0) (Eq.trans (if_neg h_1_1) (Eq.trans (if_neg h_1_2) (Eq.trans (if_neg h_1_3) (Eq.trans (if_neg h_1_4) (Eq.trans (if_neg h_1_5) (Eq.trans (if_neg h_1_6) (Eq.trans (if_neg h_1_7) (Eq.trans (if_neg h_1_8) (Eq.trans (if_neg h_1_9) (Eq.trans (if_neg h_1_10) (Eq.trans (if_neg h_1_11) (Eq.trans (if_pos h_1_12) rfl))))))))))))))), by rw [ht]; exact hP, hD⟩, hS.F ht⟩) hS.2.2 dX7_count_175
                          · rcases Decidable.em (p0 = 13) with h_1_13 | h_1_13
                            · refine lv_tableIn (off := 175) (tgt := 176) hx hb dX7_count_1 (by rw [h_1_13]; decide) (by rw [h_1_13]; decide) (by rw [h_1_13]; rfl) (by decide) ?_
                              refine lv_aload_n hx hb dX7_count_176 rfl (lv_at hl 0 rfl) ?_
                              refine va_get (D := D) (ci := 7) (v := .ref (B0_ 0)) (C := RX7) (T := TX7) (N := 7) hx hb hts iw_X7_count_7 hown hK hP 0 rfl rfl 0 (by decide) (hts (.fieldLink RX7 10 "LeafTurner" "now" "LLeafTurner$State;") (by decide +kernel)) (fun _ h9 => h9) rfl dX7_count_177 ?_
                              refine va_getN (D := D) (ci := 6) (v := .ref (B0_ 17)) (C := RX6) (T := TX6) (N := 10) hx hb hts iw_X7_count_6 hown hK hP 79 rfl rfl 2 (by decide) (va_Nw.use rfl (hN _ lt_nw23)) (fun _ h9 => h9) rfl dX7_count_180 ?_
                              refine lv_iconst (v := 2) hx hb dX7_count_183 (by decide) ?_
                              have hPc := hP.sub (ws' := lt_N2 yI (B0_ 17) (B0_ 18) 3 (a0 7)) [96, 97] rfl
                              refine lt_cR (va_runV (As := [.int 2]) (rest := []) ⟨hx, hb, hml, hown, hts⟩ (c_X3_at l D yI yC yO (B0_ 17) (B0_ 18) 3 (a0 7) 2 (by decide)) (cwV 1 hts gX7_count_X3_at rfl rfl rfl (by decide +kernel) ⟨Nat.le_of_ble_eq_true rfl, Nat.le_of_ble_eq_true rfl⟩) (lt_pV hK0 hPc (va_recv hK hPc (ci := 3) (q0 := 0) rfl rfl)) rfl rfl hl.1 rfl (lv_room (Nat.le_of_ble_eq_true rfl)) dX7_count_184 ⟨Nat.zero_le _, Nat.zero_le _⟩) (fun r_184 e_r_184 => ?_)
                              exact W.iret (v := r_184) hx hb hret (fun t ht hW => ⟨⟨r_184, (pi, pa, gs, ch), rfl, (by subst e_r_184; exact (Eq.symm (Eq.trans (if_neg h_1_0) (Eq.trans (if_neg h_1_1) (Eq.trans (if_neg h_1_2) (Eq.trans (if_neg h_1_3) (Eq.trans (if_neg h_1_4) (Eq.trans (if_neg h_1_5) (Eq.trans (if_neg h_1_6) (Eq.trans (if_neg h_1_7) (Eq.trans (if_neg h_1_8) (Eq.trans (if_neg h_1_9) (Eq.trans (if_neg h_1_10) (Eq.trans (if_neg h_1_11) (Eq.trans (if_neg h_1_12) (Eq.trans (if_pos h_1_13) rfl)))))))))))))))), by rw [ht]; exact hP, hD⟩, hS.F ht⟩) hS.2.2 dX7_count_187
                            · rcases Decidable.em (p0 = 14) with h_1_14 | h_1_14
                              · refine lv_tableIn (off := 187) (tgt := 188) hx hb dX7_count_1 (by rw [h_1_14]; decide) (by rw [h_1_14]; decide) (by rw [h_1_14]; rfl) (by decide) ?_
                                refine lv_aload_n hx hb dX7_count_188 rfl (lv_at hl 0 rfl) ?_
                                refine va_get (D := D) (ci := 7) (v := .ref (B0_ 0)) (C := RX7) (T := TX7) (N := 7) hx hb hts iw_X7_count_7 hown hK hP 0 rfl rfl 0 (by decide) (hts (.fieldLink RX7 10 "LeafTurner" "now" "LLeafTurner$State;") (by decide +kernel)) (fun _ h9 => h9) rfl dX7_count_189 ?_
                                refine va_getN (D := D) (ci := 6) (v := .int (i0 3)) (C := RX6) (T := TX6) (N := 10) hx hb hts iw_X7_count_6 hown hK hP 79 rfl rfl 9 (by decide) (va_Nw.use rfl (hN _ lt_nw29)) (fun _ h9 => h9) rfl dX7_count_192 ?_
                                exact W.iret (v := (i0 3)) hx hb hret (fun t ht hW => ⟨⟨(i0 3), (pi, pa, gs, ch), rfl, (Eq.symm (Eq.trans (if_neg h_1_0) (Eq.trans (if_neg h_1_1) (Eq.trans (if_neg h_1_2) (Eq.trans (if_neg h_1_3) (Eq.trans (if_neg h_1_4) (Eq.trans (if_neg h_1_5) (Eq.trans (if_neg h_1_6) (Eq.trans (if_neg h_1_7) (Eq.trans (if_neg h_1_8) (Eq.trans (if_neg h_1_9) (Eq.trans (if_neg h_1_10) (Eq.trans (if_neg h_1_11) (Eq.trans (if_neg h_1_12) (Eq.trans (if_neg h_1_13) (Eq.trans (if_pos h_1_14) rfl)))))))))))))))), by rw [ht]; exact hP, hD⟩, hS.F ht⟩) hS.2.2 dX7_count_195
                              · rcases Decidable.em (p0 = 15) with h_1_15 | h_1_15
                                · refine lv_tableIn (off := 195) (tgt := 196) hx hb dX7_count_1 (by rw [h_1_15]; decide) (by rw [h_1_15]; decide) (by rw [h_1_15]; rfl) (by decide) ?_
                                  refine lv_aload_n hx hb dX7_count_196 rfl (lv_at hl 0 rfl) ?_
                                  refine va_get (D := D) (ci := 7) (v := .ref (G 0)) (C := RX7) (T := TX7) (N := 7) hx hb hts iw_X7_count_7 hown hK hP 0 rfl rfl 3 (by decide) (hts (.fieldLink RX7 25 "LeafTurner" "history" "LLeafTurner$History;") (by decide +kernel)) (fun _ h9 => h9) rfl dX7_count_197 ?_
                                  refine va_getN (D := D) (ci := 2) (v := .int z) (C := RX2) (T := TX2) (N := 2) hx hb hts iw_X7_count_2 hown hK hP 1 rfl rfl 1 (by decide) (va_Nw.use rfl (hN _ lt_nw30)) (fun _ h9 => h9) rfl dX7_count_200 ?_
                                  exact W.iret (v := z) hx hb hret (fun t ht hW => ⟨⟨z, (pi, pa, gs, ch), rfl, (Eq.symm (Eq.trans (if_neg h_1_0) (Eq.trans (if_neg h_1_1) (Eq.trans (if_neg h_1_2) (Eq.trans (if_neg h_1_3) (Eq.trans (if_neg h_1_4) (Eq.trans (if_neg h_1_5) (Eq.trans (if_neg h_1_6) (Eq.trans (if_neg h_1_7) (Eq.trans (if_neg h_1_8) (Eq.trans (if_neg h_1_9) (Eq.trans (if_neg h_1_10) (Eq.trans (if_neg h_1_11) (Eq.trans (if_neg h_1_12) (Eq.trans (if_neg h_1_13) (Eq.trans (if_neg h_1_14) (Eq.trans (if_pos h_1_15) rfl))))))))))))))))), by rw [ht]; exact hP, hD⟩, hS.F ht⟩) hS.2.2 dX7_count_203
                                · rcases Decidable.em (p0 = 16) with h_1_16 | h_1_16
                                  · refine lv_tableIn (off := 203) (tgt := 204) hx hb dX7_count_1 (by rw [h_1_16]; decide) (by rw [h_1_16]; decide) (by rw [h_1_16]; rfl) (by decide) ?_
                                    refine lv_aload_n hx hb dX7_count_204 rfl (lv_at hl 0 rfl) ?_
                                    refine va_get (D := D) (ci := 7) (v := .ref (Tx 0)) (C := RX7) (T := TX7) (N := 7) hx hb hts iw_X7_count_7 hown hK hP 0 rfl rfl 4 (by decide) (hts (.fieldLink RX7 32 "LeafTurner" "text" "LLeafTurner$BookText;") (by decide +kernel)) (fun _ h9 => h9) rfl dX7_count_205 ?_
                                    refine va_getN (D := D) (ci := 1) (v := .int len) (C := RX1) (T := TX1) (N := 2) hx hb hts iw_X7_count_1 hown hK hP 98 rfl rfl 1 (by decide) (va_Nw.use rfl (hN _ lt_nw31)) (fun _ h9 => h9) rfl dX7_count_208 ?_
                                    exact W.iret (v := len) hx hb hret (fun t ht hW => ⟨⟨len, (pi, pa, gs, ch), rfl, (Eq.symm (Eq.trans (if_neg h_1_0) (Eq.trans (if_neg h_1_1) (Eq.trans (if_neg h_1_2) (Eq.trans (if_neg h_1_3) (Eq.trans (if_neg h_1_4) (Eq.trans (if_neg h_1_5) (Eq.trans (if_neg h_1_6) (Eq.trans (if_neg h_1_7) (Eq.trans (if_neg h_1_8) (Eq.trans (if_neg h_1_9) (Eq.trans (if_neg h_1_10) (Eq.trans (if_neg h_1_11) (Eq.trans (if_neg h_1_12) (Eq.trans (if_neg h_1_13) (Eq.trans (if_neg h_1_14) (Eq.trans (if_neg h_1_15) (Eq.trans (if_pos h_1_16) rfl)))))))))))))))))), by rw [ht]; exact hP, hD⟩, hS.F ht⟩) hS.2.2 dX7_count_211
                                  · refine lv_tableOut (tgt := 212) hx hb dX7_count_1 (lt_sw0_16 h_1_0 h_1_1 h_1_2 h_1_3 h_1_4 h_1_5 h_1_6 h_1_7 h_1_8 h_1_9 h_1_10 h_1_11 h_1_12 h_1_13 h_1_14 h_1_15 h_1_16) (by decide) ?_
                                    refine lv_bipush (v := (-2)) hx hb dX7_count_212 (by decide) ?_
                                    exact W.iret (v := (-2)) hx hb hret (fun t ht hW => ⟨⟨(-2), (pi, pa, gs, ch), rfl, (Eq.symm (Eq.trans (if_neg h_1_0) (Eq.trans (if_neg h_1_1) (Eq.trans (if_neg h_1_2) (Eq.trans (if_neg h_1_3) (Eq.trans (if_neg h_1_4) (Eq.trans (if_neg h_1_5) (Eq.trans (if_neg h_1_6) (Eq.trans (if_neg h_1_7) (Eq.trans (if_neg h_1_8) (Eq.trans (if_neg h_1_9) (Eq.trans (if_neg h_1_10) (Eq.trans (if_neg h_1_11) (Eq.trans (if_neg h_1_12) (Eq.trans (if_neg h_1_13) (Eq.trans (if_neg h_1_14) (Eq.trans (if_neg h_1_15) (Eq.trans (if_neg h_1_16) rfl)))))))))))))))))), by rw [ht]; exact hP, hD⟩, hS.F ht⟩) hS.2.2 dX7_count_214

def X7_page (hs_ : Int32) (i0 : Nat → Int32) (a0 : Nat → Nat → Int32) (pi : Int32) (pa : Int32) (gs : Nat → Int32) (ch : Nat → Int32) (p0 : Int32) (p1 : Int32) : Int32 × ((Int32) × (Int32) × (Nat → Int32) × (Nat → Int32)) :=
  let r_8 := X0_hasPage (i0 0) (a0 0) (a0 1) (a0 2) p0
  if r_8 = 0 then
    ((-1), (pi, pa, gs, ch))
  else
    if p1 = 0 then
      let r_63 := X3_at 60 (a0 2) p0
      (r_63, (pi, pa, gs, ch))
    else
      if p1 = 1 then
        let x_75 := X4_makeFor pi pa gs ch i0 a0
        let r_86 := X3_at 60 x_75.2.2.2 p0
        (r_86, (x_75.1, x_75.2.1, x_75.2.2.1, x_75.2.2.2))
      else
        if p1 = 2 then
          let r_98 := X5_howManyShow (i0 2) (a0 3) (a0 4) (a0 5) (a0 6) p0
          (r_98, (pi, pa, gs, ch))
        else
          if p1 = 3 then
            let x_110 := X4_makeFor pi pa gs ch i0 a0
            let r_125 := X4_isDoubtful x_110.1 x_110.2.1 x_110.2.2.1 x_110.2.2.2 (i0 2) (a0 3) (a0 4) (a0 5) (a0 6) p0
            let r_128 := X7_asNumber r_125
            (r_128, (x_110.1, x_110.2.1, x_110.2.2.1, x_110.2.2.2))
          else
            if p1 = 4 then
              let r_137 := X6_gutterIsGood i0 a0 p0
              let r_140 := X7_asNumber r_137
              (r_140, (pi, pa, gs, ch))
            else
              ((-2), (pi, pa, gs, ch))
theorem iw_X7_page_7 : ∀ w ∈ wsX70, w ∈ wsX7_page := by decide +kernel
theorem iw_X7_page_6 : ∀ w ∈ wsX60, w ∈ wsX7_page := by decide +kernel
theorem iw_X7_page_0 : ∀ w ∈ wsX00, w ∈ wsX7_page := by decide +kernel
theorem iw_X7_page_4 : ∀ w ∈ wsX40, w ∈ wsX7_page := by decide +kernel
set_option maxHeartbeats 4000000 in
set_option maxRecDepth 100000 in
theorem c_X7_page (l : Launch) (D : va_G) (yI yC yO : ClassId) (h : Nat) (B0_ : Nat → Nat) (B1_ : Nat → Nat) (B2_ : Nat → Nat) (G : Nat → Nat) (Tx : Nat → Nat) (Pg : Nat → Nat) (hs_ : Int32) (i0 : Nat → Int32) (a0 : Nat → Nat → Int32) (pi : Int32) (pa : Int32) (gs : Nat → Int32) (ch : Nat → Int32) (p0 : Int32) (p1 : Int32) (sz : Nat) : Met l yX7_page wsX7_page ({ frames := 5, cells := 0, slots := 0, locals := 150 }) (va_Pc [.ref h, .int p0, .int p1] (lt_M D yI yC yO (lt_Lt h B0_ B1_ B2_ G Tx Pg hs_ ++ (lt_St yI B0_ i0 a0 ++ lt_Pg yI Pg pi pa gs ch)) sz)) (lt_Qi D (X7_page hs_ i0 a0 pi pa gs ch p0 p1) (fun u => lt_Lt h B0_ B1_ B2_ G Tx Pg hs_ ++ (lt_St yI B0_ i0 a0 ++ lt_Pg yI Pg u.1 u.2.1 u.2.2.1 u.2.2.2)) (va_A (lt_Lt h B0_ B1_ B2_ G Tx Pg hs_ ++ (lt_St yI B0_ i0 a0 ++ lt_Pg yI Pg pi pa gs ch)) sz)) 0 0 (va_A (lt_Lt h B0_ B1_ B2_ G Tx Pg hs_ ++ (lt_St yI B0_ i0 a0 ++ lt_Pg yI Pg pi pa gs ch)) sz) := by
  refine Met.ofW (cc := cX7_page) (maxL := 3) (ret := (some .int)) (by decide) rfl ?_
  intro p e s m args below meth c s₁ B0 hml hv
  obtain ⟨rfl, hsz, hP, hK0, hD0⟩ := hv
  have hx := B0.exec
  have hb := B0.bytes
  have hret := B0.returns
  have hts := atoms_spec (ws := wsX7_page) B0.pre
  have hown : s.vm.findClass RX7 = some m.cls := findClass_of_methodNamed B0.named
  have hlocks := B0.notSynchronized
  have hK := hK0.1
  have hN := hK0.2
  subst hsz
  have hD := hD0.self (sz := s.heap.size)
  generalize hAe : va_A (lt_Lt h B0_ B1_ B2_ G Tx Pg hs_ ++ (lt_St yI B0_ i0 a0 ++ lt_Pg yI Pg pi pa gs ch)) s.heap.size = A at hD ⊢
  have hA : ∀ q : Nat, s.heap.size ≤ q → A q := fun q h => by rw [← hAe]; exact Or.inr h
  have hS : va_S A s.heap s.heap [] := va_S.rf
  have hP : va_P D vwCl (lt_Lt h B0_ B1_ B2_ G Tx Pg hs_ ++ (lt_St yI B0_ i0 a0 ++ lt_Pg yI Pg pi pa gs ch)) s.heap := hP
  have hD : va_D A (lt_Lt h B0_ B1_ B2_ G Tx Pg hs_ ++ (lt_St yI B0_ i0 a0 ++ lt_Pg yI Pg pi pa gs ch)) := hD
  have hl := lv_entry ([.ref h, .int p0, .int p1]) (n := 3) (Nat.le_of_ble_eq_true rfl)
  rw [lg_entry_eq]
  generalize (lg_sl ([.ref h, .int p0, .int p1]) ++ List.replicate (3 - (lg_sl ([.ref h, .int p0, .int p1])).length) Slot.unset).toArray = ls at hl ⊢
  have hl : lv_has ls 3 [(0, .ref h), (1, .int p0), (2, .int p1)] := hl
  refine lv_aload_n hx hb dX7_page_0 rfl (lv_at hl 0 rfl) ?_
  refine va_get (D := D) (ci := 7) (v := .ref (B0_ 0)) (C := RX7) (T := TX7) (N := 7) hx hb hts iw_X7_page_7 hown hK hP 0 rfl rfl 0 (by decide) (hts (.fieldLink RX7 10 "LeafTurner" "now" "LLeafTurner$State;") (by decide +kernel)) (fun _ h9 => h9) rfl dX7_page_1 ?_
  refine va_getN (D := D) (ci := 6) (v := .ref (B0_ 1)) (C := RX6) (T := TX6) (N := 10) hx hb hts iw_X7_page_6 hown hK hP 1 rfl rfl 0 (by decide) (va_Nw.use rfl (hN _ lt_nw18)) (fun _ h9 => h9) rfl dX7_page_4 ?_
  refine lv_iload_n hx hb dX7_page_7 rfl (lv_at hl 1 rfl) ?_
  have hPc := hP.sub (ws' := lt_Bk yI B0_ (i0 0) (a0 0) (a0 1) (a0 2)) [2, 3, 4, 5, 6, 7, 8] rfl
  refine lt_cR (va_runV (As := [.int p0]) (rest := []) ⟨hx, hb, hml, hown, hts⟩ (c_X0_hasPage l D yI yC yO B0_ (i0 0) (a0 0) (a0 1) (a0 2) p0 ) (cwV 1 hts gX7_page_X0_hasPage rfl rfl rfl (by decide +kernel) ⟨Nat.le_of_ble_eq_true rfl, Nat.le_of_ble_eq_true rfl⟩) (lt_pV hK0 hPc (va_recv hK hPc (ci := 0) (q0 := 0) rfl rfl)) rfl rfl hl.1 rfl (lv_room (Nat.le_of_ble_eq_true rfl)) dX7_page_8 ⟨Nat.zero_le _, Nat.zero_le _⟩) (fun r_8 e_r_8 => ?_)
  refine lv_if_ne (tgt := 16) hx hb dX7_page_11 (by decide) (fun c_11 => ?_) (fun c_11 => ?_)
  · refine lv_iload_n hx hb dX7_page_16 rfl (lv_at hl 2 rfl) ?_
    rcases Decidable.em (p1 = 0) with h_17_0 | h_17_0
    · refine lv_tableIn (off := 35) (tgt := 52) hx hb dX7_page_17 (by rw [h_17_0]; decide) (by rw [h_17_0]; decide) (by rw [h_17_0]; rfl) (by decide) ?_
      refine lv_aload_n hx hb dX7_page_52 rfl (lv_at hl 0 rfl) ?_
      refine va_get (D := D) (ci := 7) (v := .ref (B0_ 0)) (C := RX7) (T := TX7) (N := 7) hx hb hts iw_X7_page_7 hown hK hP 0 rfl rfl 0 (by decide) (hts (.fieldLink RX7 10 "LeafTurner" "now" "LLeafTurner$State;") (by decide +kernel)) (fun _ h9 => h9) rfl dX7_page_53 ?_
      refine va_getN (D := D) (ci := 6) (v := .ref (B0_ 1)) (C := RX6) (T := TX6) (N := 10) hx hb hts iw_X7_page_6 hown hK hP 1 rfl rfl 0 (by decide) (va_Nw.use rfl (hN _ lt_nw18)) (fun _ h9 => h9) rfl dX7_page_56 ?_
      refine va_getN (D := D) (ci := 0) (v := .ref (B0_ 6)) (C := RX0) (T := TX0) (N := 4) hx hb hts iw_X7_page_0 hown hK hP 2 rfl rfl 2 (by decide) (va_Nw.use rfl (hN _ lt_nw4)) (fun _ h9 => h9) rfl dX7_page_59 ?_
      refine lv_iload_n hx hb dX7_page_62 rfl (lv_at hl 1 rfl) ?_
      have hPc := hP.sub (ws' := lt_N2 yI (B0_ 6) (B0_ 7) 60 (a0 2)) [7, 8] rfl
      refine lt_cR (va_runV (As := [.int p0]) (rest := []) ⟨hx, hb, hml, hown, hts⟩ (c_X3_at l D yI yC yO (B0_ 6) (B0_ 7) 60 (a0 2) p0 (by decide)) (cwV 1 hts gX7_page_X3_at rfl rfl rfl (by decide +kernel) ⟨Nat.le_of_ble_eq_true rfl, Nat.le_of_ble_eq_true rfl⟩) (lt_pV hK0 hPc (va_recv hK hPc (ci := 3) (q0 := 0) rfl rfl)) rfl rfl hl.1 rfl (lv_room (Nat.le_of_ble_eq_true rfl)) dX7_page_63 ⟨Nat.zero_le _, Nat.zero_le _⟩) (fun r_63 e_r_63 => ?_)
      exact W.iret (v := r_63) hx hb hret (fun t ht hW => ⟨⟨r_63, (pi, pa, gs, ch), rfl, (by subst e_r_63 e_r_8; exact (Eq.symm (Eq.trans (if_neg c_11) (Eq.trans (if_pos h_17_0) rfl)))), by rw [ht]; exact hP, hD⟩, hS.F ht⟩) hS.2.2 dX7_page_66
    · rcases Decidable.em (p1 = 1) with h_17_1 | h_17_1
      · refine lv_tableIn (off := 50) (tgt := 67) hx hb dX7_page_17 (by rw [h_17_1]; decide) (by rw [h_17_1]; decide) (by rw [h_17_1]; rfl) (by decide) ?_
        refine lv_aload_n hx hb dX7_page_67 rfl (lv_at hl 0 rfl) ?_
        refine va_get (D := D) (ci := 7) (v := .ref (Pg 0)) (C := RX7) (T := TX7) (N := 7) hx hb hts iw_X7_page_7 hown hK hP 0 rfl rfl 5 (by decide) (hts (.fieldLink RX7 39 "LeafTurner" "pageSet" "LLeafTurner$PageSet;") (by decide +kernel)) (fun _ h9 => h9) rfl dX7_page_68 ?_
        refine lv_aload_n hx hb dX7_page_71 rfl (lv_at hl 0 rfl) ?_
        refine va_get (D := D) (ci := 7) (v := .ref (B0_ 0)) (C := RX7) (T := TX7) (N := 7) hx hb hts iw_X7_page_7 hown hK hP 0 rfl rfl 0 (by decide) (hts (.fieldLink RX7 10 "LeafTurner" "now" "LLeafTurner$State;") (by decide +kernel)) (fun _ h9 => h9) rfl dX7_page_72 ?_
        have hPc := hP.sub (ws' := lt_Pg yI Pg pi pa gs ch ++ lt_St yI B0_ i0 a0) [20, 21, 22, 23, 24, 1, 2, 3, 4, 5, 6, 7, 8, 9, 10, 11, 12, 13, 14, 15, 16, 17, 18, 19] rfl
        have hDc := hD.sub (ws' := lt_Pg yI Pg pi pa gs ch ++ lt_St yI B0_ i0 a0) [20, 21, 22, 23, 24, 1, 2, 3, 4, 5, 6, 7, 8, 9, 10, 11, 12, 13, 14, 15, 16, 17, 18, 19] (by decide) rfl
        refine lt_cWv (wc := lt_Pg yI Pg pi pa gs ch ++ lt_St yI B0_ i0 a0) (wr := [(h, .inr (7, [.ref (B0_ 0), .ref (B1_ 0), .ref (B2_ 0), .ref (G 0), .ref (Tx 0), .ref (Pg 0), .int hs_]))]) (va_runV (As := [.ref (B0_ 0)]) (rest := []) ⟨hx, hb, hml, hown, hts⟩ (c_X4_makeFor l D yI yC yO Pg B0_ pi pa gs ch i0 a0 _ ) (cwV 1 hts gX7_page_X4_makeFor rfl rfl rfl (by decide +kernel) ⟨Nat.le_of_ble_eq_true rfl, Nat.le_of_ble_eq_true rfl⟩) (lt_qV hK0 hPc hDc (va_recv hK hPc (ci := 4) (q0 := 0) rfl rfl)) rfl rfl hl.1 rfl (lv_room (Nat.le_of_ble_eq_true rfl)) dX7_page_75 ⟨Nat.zero_le _, Nat.zero_le _⟩) hP hD hS hA [20, 21, 22, 23, 24, 1, 2, 3, 4, 5, 6, 7, 8, 9, 10, 11, 12, 13, 14, 15, 16, 17, 18, 19] [0] rfl rfl (by decide) (by decide) (fun x_75 e_x_75 H locs hP hD hS => ?_)
        have hP := hP.sub (ws' := lt_Lt h B0_ B1_ B2_ G Tx Pg hs_ ++ (lt_St yI B0_ i0 a0 ++ lt_Pg yI Pg x_75.1 x_75.2.1 x_75.2.2.1 x_75.2.2.2)) [0, 6, 7, 8, 9, 10, 11, 12, 13, 14, 15, 16, 17, 18, 19, 20, 21, 22, 23, 24, 1, 2, 3, 4, 5] rfl
        have hD := hD.sub (ws' := lt_Lt h B0_ B1_ B2_ G Tx Pg hs_ ++ (lt_St yI B0_ i0 a0 ++ lt_Pg yI Pg x_75.1 x_75.2.1 x_75.2.2.1 x_75.2.2.2)) [0, 6, 7, 8, 9, 10, 11, 12, 13, 14, 15, 16, 17, 18, 19, 20, 21, 22, 23, 24, 1, 2, 3, 4, 5] (by decide) rfl
        refine lv_aload_n hx hb dX7_page_78 rfl (lv_at hl 0 rfl) ?_
        refine va_get (D := D) (ci := 7) (v := .ref (Pg 0)) (C := RX7) (T := TX7) (N := 7) hx hb hts iw_X7_page_7 hown hK hP 0 rfl rfl 5 (by decide) (hts (.fieldLink RX7 39 "LeafTurner" "pageSet" "LLeafTurner$PageSet;") (by decide +kernel)) (fun _ h9 => h9) rfl dX7_page_79 ?_
        refine va_getN (D := D) (ci := 4) (v := .ref (Pg 3)) (C := RX4) (T := TX4) (N := 4) hx hb hts iw_X7_page_4 hown hK hP 20 rfl rfl 1 (by decide) (va_Nw.use rfl (hN _ lt_nw33)) (fun _ h9 => h9) rfl dX7_page_82 ?_
        refine lv_iload_n hx hb dX7_page_85 rfl (lv_at hl 1 rfl) ?_
        have hPc := hP.sub (ws' := lt_N2 yI (Pg 3) (Pg 4) 60 x_75.2.2.2) [23, 24] rfl
        refine lt_cR (va_runV (As := [.int p0]) (rest := []) ⟨hx, hb, hml, hown, hts⟩ (c_X3_at l D yI yC yO (Pg 3) (Pg 4) 60 x_75.2.2.2 p0 (by decide)) (cwV 1 hts gX7_page_X3_at rfl rfl rfl (by decide +kernel) ⟨Nat.le_of_ble_eq_true rfl, Nat.le_of_ble_eq_true rfl⟩) (lt_pV hK0 hPc (va_recv hK hPc (ci := 3) (q0 := 0) rfl rfl)) rfl rfl hl.1 rfl (lv_room (Nat.le_of_ble_eq_true rfl)) dX7_page_86 ⟨Nat.zero_le _, Nat.zero_le _⟩) (fun r_86 e_r_86 => ?_)
        exact W.iret (v := r_86) hx hb hret (fun t ht hW => ⟨⟨r_86, (x_75.1, x_75.2.1, x_75.2.2.1, x_75.2.2.2), rfl, (by subst e_r_86 e_x_75 e_r_8; exact (Eq.symm (Eq.trans (if_neg c_11) (Eq.trans (if_neg h_17_0) (Eq.trans (if_pos h_17_1) rfl))))), by rw [ht]; exact hP, hD⟩, hS.F ht⟩) hS.2.2 dX7_page_89
      · rcases Decidable.em (p1 = 2) with h_17_2 | h_17_2
        · refine lv_tableIn (off := 73) (tgt := 90) hx hb dX7_page_17 (by rw [h_17_2]; decide) (by rw [h_17_2]; decide) (by rw [h_17_2]; rfl) (by decide) ?_
          refine lv_aload_n hx hb dX7_page_90 rfl (lv_at hl 0 rfl) ?_
          refine va_get (D := D) (ci := 7) (v := .ref (B0_ 0)) (C := RX7) (T := TX7) (N := 7) hx hb hts iw_X7_page_7 hown hK hP 0 rfl rfl 0 (by decide) (hts (.fieldLink RX7 10 "LeafTurner" "now" "LLeafTurner$State;") (by decide +kernel)) (fun _ h9 => h9) rfl dX7_page_91 ?_
          refine va_getN (D := D) (ci := 6) (v := .ref (B0_ 8)) (C := RX6) (T := TX6) (N := 10) hx hb hts iw_X7_page_6 hown hK hP 1 rfl rfl 1 (by decide) (va_Nw.use rfl (hN _ lt_nw21)) (fun _ h9 => h9) rfl dX7_page_94 ?_
          refine lv_iload_n hx hb dX7_page_97 rfl (lv_at hl 1 rfl) ?_
          have hPc := hP.sub (ws' := lt_Ps yI B0_ (i0 2) (a0 3) (a0 4) (a0 5) (a0 6)) [9, 10, 11, 12, 13, 14, 15, 16, 17] rfl
          refine lt_cR (va_runV (As := [.int p0]) (rest := []) ⟨hx, hb, hml, hown, hts⟩ (c_X5_howManyShow l D yI yC yO B0_ (i0 2) (a0 3) (a0 4) (a0 5) (a0 6) p0 ) (cwV 1 hts gX7_page_X5_howManyShow rfl rfl rfl (by decide +kernel) ⟨Nat.le_of_ble_eq_true rfl, Nat.le_of_ble_eq_true rfl⟩) (lt_pV hK0 hPc (va_recv hK hPc (ci := 5) (q0 := 0) rfl rfl)) rfl rfl hl.1 rfl (lv_room (Nat.le_of_ble_eq_true rfl)) dX7_page_98 ⟨Nat.zero_le _, Nat.zero_le _⟩) (fun r_98 e_r_98 => ?_)
          exact W.iret (v := r_98) hx hb hret (fun t ht hW => ⟨⟨r_98, (pi, pa, gs, ch), rfl, (by subst e_r_98 e_r_8; exact (Eq.symm (Eq.trans (if_neg c_11) (Eq.trans (if_neg h_17_0) (Eq.trans (if_neg h_17_1) (Eq.trans (if_pos h_17_2) rfl)))))), by rw [ht]; exact hP, hD⟩, hS.F ht⟩) hS.2.2 dX7_page_101
        · rcases Decidable.em (p1 = 3) with h_17_3 | h_17_3
          · refine lv_tableIn (off := 85) (tgt := 102) hx hb dX7_page_17 (by rw [h_17_3]; decide) (by rw [h_17_3]; decide) (by rw [h_17_3]; rfl) (by decide) ?_
            refine lv_aload_n hx hb dX7_page_102 rfl (lv_at hl 0 rfl) ?_
            refine va_get (D := D) (ci := 7) (v := .ref (Pg 0)) (C := RX7) (T := TX7) (N := 7) hx hb hts iw_X7_page_7 hown hK hP 0 rfl rfl 5 (by decide) (hts (.fieldLink RX7 39 "LeafTurner" "pageSet" "LLeafTurner$PageSet;") (by decide +kernel)) (fun _ h9 => h9) rfl dX7_page_103 ?_
            refine lv_aload_n hx hb dX7_page_106 rfl (lv_at hl 0 rfl) ?_
            refine va_get (D := D) (ci := 7) (v := .ref (B0_ 0)) (C := RX7) (T := TX7) (N := 7) hx hb hts iw_X7_page_7 hown hK hP 0 rfl rfl 0 (by decide) (hts (.fieldLink RX7 10 "LeafTurner" "now" "LLeafTurner$State;") (by decide +kernel)) (fun _ h9 => h9) rfl dX7_page_107 ?_
            have hPc := hP.sub (ws' := lt_Pg yI Pg pi pa gs ch ++ lt_St yI B0_ i0 a0) [20, 21, 22, 23, 24, 1, 2, 3, 4, 5, 6, 7, 8, 9, 10, 11, 12, 13, 14, 15, 16, 17, 18, 19] rfl
            have hDc := hD.sub (ws' := lt_Pg yI Pg pi pa gs ch ++ lt_St yI B0_ i0 a0) [20, 21, 22, 23, 24, 1, 2, 3, 4, 5, 6, 7, 8, 9, 10, 11, 12, 13, 14, 15, 16, 17, 18, 19] (by decide) rfl
            refine lt_cWv (wc := lt_Pg yI Pg pi pa gs ch ++ lt_St yI B0_ i0 a0) (wr := [(h, .inr (7, [.ref (B0_ 0), .ref (B1_ 0), .ref (B2_ 0), .ref (G 0), .ref (Tx 0), .ref (Pg 0), .int hs_]))]) (va_runV (As := [.ref (B0_ 0)]) (rest := []) ⟨hx, hb, hml, hown, hts⟩ (c_X4_makeFor l D yI yC yO Pg B0_ pi pa gs ch i0 a0 _ ) (cwV 1 hts gX7_page_X4_makeFor rfl rfl rfl (by decide +kernel) ⟨Nat.le_of_ble_eq_true rfl, Nat.le_of_ble_eq_true rfl⟩) (lt_qV hK0 hPc hDc (va_recv hK hPc (ci := 4) (q0 := 0) rfl rfl)) rfl rfl hl.1 rfl (lv_room (Nat.le_of_ble_eq_true rfl)) dX7_page_110 ⟨Nat.zero_le _, Nat.zero_le _⟩) hP hD hS hA [20, 21, 22, 23, 24, 1, 2, 3, 4, 5, 6, 7, 8, 9, 10, 11, 12, 13, 14, 15, 16, 17, 18, 19] [0] rfl rfl (by decide) (by decide) (fun x_110 e_x_110 H locs hP hD hS => ?_)
            have hP := hP.sub (ws' := lt_Lt h B0_ B1_ B2_ G Tx Pg hs_ ++ (lt_St yI B0_ i0 a0 ++ lt_Pg yI Pg x_110.1 x_110.2.1 x_110.2.2.1 x_110.2.2.2)) [0, 6, 7, 8, 9, 10, 11, 12, 13, 14, 15, 16, 17, 18, 19, 20, 21, 22, 23, 24, 1, 2, 3, 4, 5] rfl
            have hD := hD.sub (ws' := lt_Lt h B0_ B1_ B2_ G Tx Pg hs_ ++ (lt_St yI B0_ i0 a0 ++ lt_Pg yI Pg x_110.1 x_110.2.1 x_110.2.2.1 x_110.2.2.2)) [0, 6, 7, 8, 9, 10, 11, 12, 13, 14, 15, 16, 17, 18, 19, 20, 21, 22, 23, 24, 1, 2, 3, 4, 5] (by decide) rfl
            refine lv_aload_n hx hb dX7_page_113 rfl (lv_at hl 0 rfl) ?_
            refine va_get (D := D) (ci := 7) (v := .ref (Pg 0)) (C := RX7) (T := TX7) (N := 7) hx hb hts iw_X7_page_7 hown hK hP 0 rfl rfl 5 (by decide) (hts (.fieldLink RX7 39 "LeafTurner" "pageSet" "LLeafTurner$PageSet;") (by decide +kernel)) (fun _ h9 => h9) rfl dX7_page_114 ?_
            refine lv_iload_n hx hb dX7_page_117 rfl (lv_at hl 1 rfl) ?_
            refine lv_aload_n hx hb dX7_page_118 rfl (lv_at hl 0 rfl) ?_
            refine va_get (D := D) (ci := 7) (v := .ref (B0_ 0)) (C := RX7) (T := TX7) (N := 7) hx hb hts iw_X7_page_7 hown hK hP 0 rfl rfl 0 (by decide) (hts (.fieldLink RX7 10 "LeafTurner" "now" "LLeafTurner$State;") (by decide +kernel)) (fun _ h9 => h9) rfl dX7_page_119 ?_
            refine va_getN (D := D) (ci := 6) (v := .ref (B0_ 8)) (C := RX6) (T := TX6) (N := 10) hx hb hts iw_X7_page_6 hown hK hP 1 rfl rfl 1 (by decide) (va_Nw.use rfl (hN _ lt_nw21)) (fun _ h9 => h9) rfl dX7_page_122 ?_
            have hPc := hP.sub (ws' := lt_Pg yI Pg x_110.1 x_110.2.1 x_110.2.2.1 x_110.2.2.2 ++ lt_Ps yI B0_ (i0 2) (a0 3) (a0 4) (a0 5) (a0 6)) [20, 21, 22, 23, 24, 9, 10, 11, 12, 13, 14, 15, 16, 17] rfl
            refine lt_cR (va_runV (As := [.int p0, .ref (B0_ 8)]) (rest := []) ⟨hx, hb, hml, hown, hts⟩ (c_X4_isDoubtful l D yI yC yO Pg B0_ x_110.1 x_110.2.1 x_110.2.2.1 x_110.2.2.2 (i0 2) (a0 3) (a0 4) (a0 5) (a0 6) p0 ) (cwV 2 hts gX7_page_X4_isDoubtful rfl rfl rfl (by decide +kernel) ⟨Nat.le_of_ble_eq_true rfl, Nat.le_of_ble_eq_true rfl⟩) (lt_pV hK0 hPc (va_recv hK hPc (ci := 4) (q0 := 0) rfl rfl)) rfl rfl hl.1 rfl (lv_room (Nat.le_of_ble_eq_true rfl)) dX7_page_125 ⟨Nat.zero_le _, Nat.zero_le _⟩) (fun r_125 e_r_125 => ?_)
            have hPc := hP.sub (ws' := ([] : va_W)) [] rfl
            refine lt_cR (va_runS (As := [.int r_125]) (rest := []) ⟨hx, hb, hml, hown, hts⟩ (c_X7_asNumber l D yI yC yO r_125 ) (va_cwS 1 hts gX7_page_X7_asNumber rfl rfl rfl (by decide +kernel) ⟨Nat.le_of_ble_eq_true rfl, Nat.le_of_ble_eq_true rfl⟩) (lt_pS hK0 hPc) rfl rfl hl.1 rfl (lv_room (Nat.le_of_ble_eq_true rfl)) dX7_page_128 ⟨Nat.zero_le _, Nat.zero_le _⟩) (fun r_128 e_r_128 => ?_)
            exact W.iret (v := r_128) hx hb hret (fun t ht hW => ⟨⟨r_128, (x_110.1, x_110.2.1, x_110.2.2.1, x_110.2.2.2), rfl, (by subst e_r_128 e_r_125 e_x_110 e_r_8; exact (Eq.symm (Eq.trans (if_neg c_11) (Eq.trans (if_neg h_17_0) (Eq.trans (if_neg h_17_1) (Eq.trans (if_neg h_17_2) (Eq.trans (if_pos h_17_3) rfl))))))), by rw [ht]; exact hP, hD⟩, hS.F ht⟩) hS.2.2 dX7_page_131
          · rcases Decidable.em (p1 = 4) with h_17_4 | h_17_4
            · refine lv_tableIn (off := 115) (tgt := 132) hx hb dX7_page_17 (by rw [h_17_4]; decide) (by rw [h_17_4]; decide) (by rw [h_17_4]; rfl) (by decide) ?_
              refine lv_aload_n hx hb dX7_page_132 rfl (lv_at hl 0 rfl) ?_
              refine va_get (D := D) (ci := 7) (v := .ref (B0_ 0)) (C := RX7) (T := TX7) (N := 7) hx hb hts iw_X7_page_7 hown hK hP 0 rfl rfl 0 (by decide) (hts (.fieldLink RX7 10 "LeafTurner" "now" "LLeafTurner$State;") (by decide +kernel)) (fun _ h9 => h9) rfl dX7_page_133 ?_
              refine lv_iload_n hx hb dX7_page_136 rfl (lv_at hl 1 rfl) ?_
              have hPc := hP.sub (ws' := lt_St yI B0_ i0 a0) [1, 2, 3, 4, 5, 6, 7, 8, 9, 10, 11, 12, 13, 14, 15, 16, 17, 18, 19] rfl
              refine lt_cR (va_runV (As := [.int p0]) (rest := []) ⟨hx, hb, hml, hown, hts⟩ (c_X6_gutterIsGood l D yI yC yO B0_ i0 a0 p0 ) (cwV 1 hts gX7_page_X6_gutterIsGood rfl rfl rfl (by decide +kernel) ⟨Nat.le_of_ble_eq_true rfl, Nat.le_of_ble_eq_true rfl⟩) (lt_pV hK0 hPc (va_recv hK hPc (ci := 6) (q0 := 0) rfl rfl)) rfl rfl hl.1 rfl (lv_room (Nat.le_of_ble_eq_true rfl)) dX7_page_137 ⟨Nat.zero_le _, Nat.zero_le _⟩) (fun r_137 e_r_137 => ?_)
              have hPc := hP.sub (ws' := ([] : va_W)) [] rfl
              refine lt_cR (va_runS (As := [.int r_137]) (rest := []) ⟨hx, hb, hml, hown, hts⟩ (c_X7_asNumber l D yI yC yO r_137 ) (va_cwS 1 hts gX7_page_X7_asNumber rfl rfl rfl (by decide +kernel) ⟨Nat.le_of_ble_eq_true rfl, Nat.le_of_ble_eq_true rfl⟩) (lt_pS hK0 hPc) rfl rfl hl.1 rfl (lv_room (Nat.le_of_ble_eq_true rfl)) dX7_page_140 ⟨Nat.zero_le _, Nat.zero_le _⟩) (fun r_140 e_r_140 => ?_)
              exact W.iret (v := r_140) hx hb hret (fun t ht hW => ⟨⟨r_140, (pi, pa, gs, ch), rfl, (by subst e_r_140 e_r_137 e_r_8; exact (Eq.symm (Eq.trans (if_neg c_11) (Eq.trans (if_neg h_17_0) (Eq.trans (if_neg h_17_1) (Eq.trans (if_neg h_17_2) (Eq.trans (if_neg h_17_3) (Eq.trans (if_pos h_17_4) rfl)))))))), by rw [ht]; exact hP, hD⟩, hS.F ht⟩) hS.2.2 dX7_page_143
            · refine lv_tableOut (tgt := 144) hx hb dX7_page_17 (lt_sw0_4 h_17_0 h_17_1 h_17_2 h_17_3 h_17_4) (by decide) ?_
              refine lv_bipush (v := (-2)) hx hb dX7_page_144 (by decide) ?_
              exact W.iret (v := (-2)) hx hb hret (fun t ht hW => ⟨⟨(-2), (pi, pa, gs, ch), rfl, (by subst e_r_8; exact (Eq.symm (Eq.trans (if_neg c_11) (Eq.trans (if_neg h_17_0) (Eq.trans (if_neg h_17_1) (Eq.trans (if_neg h_17_2) (Eq.trans (if_neg h_17_3) (Eq.trans (if_neg h_17_4) rfl)))))))), by rw [ht]; exact hP, hD⟩, hS.F ht⟩) hS.2.2 dX7_page_146
  · refine lv_iconst (v := (-1)) hx hb dX7_page_14 (by decide) ?_
    exact W.iret (v := (-1)) hx hb hret (fun t ht hW => ⟨⟨(-1), (pi, pa, gs, ch), rfl, (by subst e_r_8; exact (Eq.symm (Eq.trans (if_pos c_11) rfl))), by rw [ht]; exact hP, hD⟩, hS.F ht⟩) hS.2.2 dX7_page_15

def X7_picture (hs_ : Int32) (i0 : Nat → Int32) (a0 : Nat → Nat → Int32) (pi : Int32) (pa : Int32) (gs : Nat → Int32) (ch : Nat → Int32) (p0 : Int32) (p1 : Int32) : Int32 × ((Int32) × (Int32) × (Nat → Int32) × (Nat → Int32)) :=
  let r_10 := X5_has (i0 2) (a0 3) (a0 4) (a0 5) (a0 6) p0
  if r_10 = 0 then
    ((-1), (pi, pa, gs, ch))
  else
    if p1 = 0 then
      let r_65 := X3_at 80 (a0 3) p0
      (r_65, (pi, pa, gs, ch))
    else
      if p1 = 1 then
        let r_74 := X3_at 80 (a0 4) p0
        (r_74, (pi, pa, gs, ch))
      else
        if p1 = 2 then
          let r_80 := X5_isGood (i0 2) (a0 3) (a0 4) (a0 5) (a0 6) p0
          let r_83 := X7_asNumber r_80
          (r_83, (pi, pa, gs, ch))
        else
          if p1 = 3 then
            let x_95 := X4_makeFor pi pa gs ch i0 a0
            let r_106 := X3_at 80 x_95.2.2.1 p0
            (r_106, (x_95.1, x_95.2.1, x_95.2.2.1, x_95.2.2.2))
          else
            if p1 = 4 then
              let x_118 := X4_makeFor pi pa gs ch i0 a0
              let r_126 := X4_isSpare x_118.1 x_118.2.1 x_118.2.2.1 x_118.2.2.2 p0
              let r_129 := X7_asNumber r_126
              (r_129, (x_118.1, x_118.2.1, x_118.2.2.1, x_118.2.2.2))
            else
              if p1 = 5 then
                let r_138 := X3_at 80 (a0 3) p0
                let r_141 := X7_isRightPage r_138
                let r_144 := X7_asNumber r_141
                (r_144, (pi, pa, gs, ch))
              else
                if p1 = 6 then
                  let r_153 := X3_at 80 (a0 6) p0
                  (r_153, (pi, pa, gs, ch))
                else
                  ((-2), (pi, pa, gs, ch))
theorem iw_X7_picture_7 : ∀ w ∈ wsX70, w ∈ wsX7_picture := by decide +kernel
theorem iw_X7_picture_6 : ∀ w ∈ wsX60, w ∈ wsX7_picture := by decide +kernel
theorem iw_X7_picture_5 : ∀ w ∈ wsX50, w ∈ wsX7_picture := by decide +kernel
theorem iw_X7_picture_4 : ∀ w ∈ wsX40, w ∈ wsX7_picture := by decide +kernel
set_option maxHeartbeats 4000000 in
set_option maxRecDepth 100000 in
theorem c_X7_picture (l : Launch) (D : va_G) (yI yC yO : ClassId) (h : Nat) (B0_ : Nat → Nat) (B1_ : Nat → Nat) (B2_ : Nat → Nat) (G : Nat → Nat) (Tx : Nat → Nat) (Pg : Nat → Nat) (hs_ : Int32) (i0 : Nat → Int32) (a0 : Nat → Nat → Int32) (pi : Int32) (pa : Int32) (gs : Nat → Int32) (ch : Nat → Int32) (p0 : Int32) (p1 : Int32) (sz : Nat) : Met l yX7_picture wsX7_picture ({ frames := 5, cells := 0, slots := 0, locals := 150 }) (va_Pc [.ref h, .int p0, .int p1] (lt_M D yI yC yO (lt_Lt h B0_ B1_ B2_ G Tx Pg hs_ ++ (lt_St yI B0_ i0 a0 ++ lt_Pg yI Pg pi pa gs ch)) sz)) (lt_Qi D (X7_picture hs_ i0 a0 pi pa gs ch p0 p1) (fun u => lt_Lt h B0_ B1_ B2_ G Tx Pg hs_ ++ (lt_St yI B0_ i0 a0 ++ lt_Pg yI Pg u.1 u.2.1 u.2.2.1 u.2.2.2)) (va_A (lt_Lt h B0_ B1_ B2_ G Tx Pg hs_ ++ (lt_St yI B0_ i0 a0 ++ lt_Pg yI Pg pi pa gs ch)) sz)) 0 0 (va_A (lt_Lt h B0_ B1_ B2_ G Tx Pg hs_ ++ (lt_St yI B0_ i0 a0 ++ lt_Pg yI Pg pi pa gs ch)) sz) := by
  refine Met.ofW (cc := cX7_picture) (maxL := 4) (ret := (some .int)) (by decide) rfl ?_
  intro p e s m args below meth c s₁ B0 hml hv
  obtain ⟨rfl, hsz, hP, hK0, hD0⟩ := hv
  have hx := B0.exec
  have hb := B0.bytes
  have hret := B0.returns
  have hts := atoms_spec (ws := wsX7_picture) B0.pre
  have hown : s.vm.findClass RX7 = some m.cls := findClass_of_methodNamed B0.named
  have hlocks := B0.notSynchronized
  have hK := hK0.1
  have hN := hK0.2
  subst hsz
  have hD := hD0.self (sz := s.heap.size)
  generalize hAe : va_A (lt_Lt h B0_ B1_ B2_ G Tx Pg hs_ ++ (lt_St yI B0_ i0 a0 ++ lt_Pg yI Pg pi pa gs ch)) s.heap.size = A at hD ⊢
  have hA : ∀ q : Nat, s.heap.size ≤ q → A q := fun q h => by rw [← hAe]; exact Or.inr h
  have hS : va_S A s.heap s.heap [] := va_S.rf
  have hP : va_P D vwCl (lt_Lt h B0_ B1_ B2_ G Tx Pg hs_ ++ (lt_St yI B0_ i0 a0 ++ lt_Pg yI Pg pi pa gs ch)) s.heap := hP
  have hD : va_D A (lt_Lt h B0_ B1_ B2_ G Tx Pg hs_ ++ (lt_St yI B0_ i0 a0 ++ lt_Pg yI Pg pi pa gs ch)) := hD
  have hl := lv_entry ([.ref h, .int p0, .int p1]) (n := 4) (Nat.le_of_ble_eq_true rfl)
  rw [lg_entry_eq]
  generalize (lg_sl ([.ref h, .int p0, .int p1]) ++ List.replicate (4 - (lg_sl ([.ref h, .int p0, .int p1])).length) Slot.unset).toArray = ls at hl ⊢
  have hl : lv_has ls 4 [(0, .ref h), (1, .int p0), (2, .int p1)] := hl
  refine lv_aload_n hx hb dX7_picture_0 rfl (lv_at hl 0 rfl) ?_
  refine va_get (D := D) (ci := 7) (v := .ref (B0_ 0)) (C := RX7) (T := TX7) (N := 7) hx hb hts iw_X7_picture_7 hown hK hP 0 rfl rfl 0 (by decide) (hts (.fieldLink RX7 10 "LeafTurner" "now" "LLeafTurner$State;") (by decide +kernel)) (fun _ h9 => h9) rfl dX7_picture_1 ?_
  refine va_getN (D := D) (ci := 6) (v := .ref (B0_ 8)) (C := RX6) (T := TX6) (N := 10) hx hb hts iw_X7_picture_6 hown hK hP 1 rfl rfl 1 (by decide) (va_Nw.use rfl (hN _ lt_nw21)) (fun _ h9 => h9) rfl dX7_picture_4 ?_
  refine lv_astore_n (lv' := [(3, .ref (B0_ 8)), (0, .ref h), (1, .int p0), (2, .int p1)]) hx hb dX7_picture_7 rfl hl (by decide) rfl (fun ls hl => ?_)
  refine lv_aload_n hx hb dX7_picture_8 rfl (lv_at hl 0 rfl) ?_
  refine lv_iload_n hx hb dX7_picture_9 rfl (lv_at hl 2 rfl) ?_
  have hPc := hP.sub (ws' := lt_Ps yI B0_ (i0 2) (a0 3) (a0 4) (a0 5) (a0 6)) [9, 10, 11, 12, 13, 14, 15, 16, 17] rfl
  refine lt_cR (va_runV (As := [.int p0]) (rest := []) ⟨hx, hb, hml, hown, hts⟩ (c_X5_has l D yI yC yO B0_ (i0 2) (a0 3) (a0 4) (a0 5) (a0 6) p0 ) (cwV 1 hts gX7_picture_X5_has rfl rfl rfl (by decide +kernel) ⟨Nat.le_of_ble_eq_true rfl, Nat.le_of_ble_eq_true rfl⟩) (lt_pV hK0 hPc (va_recv hK hPc (ci := 5) (q0 := 0) rfl rfl)) rfl rfl hl.1 rfl (lv_room (Nat.le_of_ble_eq_true rfl)) dX7_picture_10 ⟨Nat.zero_le _, Nat.zero_le _⟩) (fun r_10 e_r_10 => ?_)
  refine lv_if_ne (tgt := 18) hx hb dX7_picture_13 (by decide) (fun c_13 => ?_) (fun c_13 => ?_)
  · refine lv_iload_n hx hb dX7_picture_18 rfl (lv_at hl 3 rfl) ?_
    rcases Decidable.em (p1 = 0) with h_19_0 | h_19_0
    · refine lv_tableIn (off := 41) (tgt := 60) hx hb dX7_picture_19 (by rw [h_19_0]; decide) (by rw [h_19_0]; decide) (by rw [h_19_0]; rfl) (by decide) ?_
      refine lv_aload_n hx hb dX7_picture_60 rfl (lv_at hl 0 rfl) ?_
      refine va_getN (D := D) (ci := 5) (v := .ref (B0_ 9)) (C := RX5) (T := TX5) (N := 5) hx hb hts iw_X7_picture_5 hown hK hP 9 rfl rfl 0 (by decide) (va_Nw.use rfl (hN _ lt_nw10)) (fun _ h9 => h9) rfl dX7_picture_61 ?_
      refine lv_iload_n hx hb dX7_picture_64 rfl (lv_at hl 2 rfl) ?_
      have hPc := hP.sub (ws' := lt_N2 yI (B0_ 9) (B0_ 10) 80 (a0 3)) [10, 11] rfl
      refine lt_cR (va_runV (As := [.int p0]) (rest := []) ⟨hx, hb, hml, hown, hts⟩ (c_X3_at l D yI yC yO (B0_ 9) (B0_ 10) 80 (a0 3) p0 (by decide)) (cwV 1 hts gX7_picture_X3_at rfl rfl rfl (by decide +kernel) ⟨Nat.le_of_ble_eq_true rfl, Nat.le_of_ble_eq_true rfl⟩) (lt_pV hK0 hPc (va_recv hK hPc (ci := 3) (q0 := 0) rfl rfl)) rfl rfl hl.1 rfl (lv_room (Nat.le_of_ble_eq_true rfl)) dX7_picture_65 ⟨Nat.zero_le _, Nat.zero_le _⟩) (fun r_65 e_r_65 => ?_)
      exact W.iret (v := r_65) hx hb hret (fun t ht hW => ⟨⟨r_65, (pi, pa, gs, ch), rfl, (by subst e_r_65 e_r_10; exact (Eq.symm (Eq.trans (if_neg c_13) (Eq.trans (if_pos h_19_0) rfl)))), by rw [ht]; exact hP, hD⟩, hS.F ht⟩) hS.2.2 dX7_picture_68
    · rcases Decidable.em (p1 = 1) with h_19_1 | h_19_1
      · refine lv_tableIn (off := 50) (tgt := 69) hx hb dX7_picture_19 (by rw [h_19_1]; decide) (by rw [h_19_1]; decide) (by rw [h_19_1]; rfl) (by decide) ?_
        refine lv_aload_n hx hb dX7_picture_69 rfl (lv_at hl 0 rfl) ?_
        refine va_getN (D := D) (ci := 5) (v := .ref (B0_ 11)) (C := RX5) (T := TX5) (N := 5) hx hb hts iw_X7_picture_5 hown hK hP 9 rfl rfl 1 (by decide) (va_Nw.use rfl (hN _ lt_nw12)) (fun _ h9 => h9) rfl dX7_picture_70 ?_
        refine lv_iload_n hx hb dX7_picture_73 rfl (lv_at hl 2 rfl) ?_
        have hPc := hP.sub (ws' := lt_N2 yI (B0_ 11) (B0_ 12) 80 (a0 4)) [12, 13] rfl
        refine lt_cR (va_runV (As := [.int p0]) (rest := []) ⟨hx, hb, hml, hown, hts⟩ (c_X3_at l D yI yC yO (B0_ 11) (B0_ 12) 80 (a0 4) p0 (by decide)) (cwV 1 hts gX7_picture_X3_at rfl rfl rfl (by decide +kernel) ⟨Nat.le_of_ble_eq_true rfl, Nat.le_of_ble_eq_true rfl⟩) (lt_pV hK0 hPc (va_recv hK hPc (ci := 3) (q0 := 0) rfl rfl)) rfl rfl hl.1 rfl (lv_room (Nat.le_of_ble_eq_true rfl)) dX7_picture_74 ⟨Nat.zero_le _, Nat.zero_le _⟩) (fun r_74 e_r_74 => ?_)
        exact W.iret (v := r_74) hx hb hret (fun t ht hW => ⟨⟨r_74, (pi, pa, gs, ch), rfl, (by subst e_r_74 e_r_10; exact (Eq.symm (Eq.trans (if_neg c_13) (Eq.trans (if_neg h_19_0) (Eq.trans (if_pos h_19_1) rfl))))), by rw [ht]; exact hP, hD⟩, hS.F ht⟩) hS.2.2 dX7_picture_77
      · rcases Decidable.em (p1 = 2) with h_19_2 | h_19_2
        · refine lv_tableIn (off := 59) (tgt := 78) hx hb dX7_picture_19 (by rw [h_19_2]; decide) (by rw [h_19_2]; decide) (by rw [h_19_2]; rfl) (by decide) ?_
          refine lv_aload_n hx hb dX7_picture_78 rfl (lv_at hl 0 rfl) ?_
          refine lv_iload_n hx hb dX7_picture_79 rfl (lv_at hl 2 rfl) ?_
          have hPc := hP.sub (ws' := lt_Ps yI B0_ (i0 2) (a0 3) (a0 4) (a0 5) (a0 6)) [9, 10, 11, 12, 13, 14, 15, 16, 17] rfl
          refine lt_cR (va_runV (As := [.int p0]) (rest := []) ⟨hx, hb, hml, hown, hts⟩ (c_X5_isGood l D yI yC yO B0_ (i0 2) (a0 3) (a0 4) (a0 5) (a0 6) p0 ) (cwV 1 hts gX7_picture_X5_isGood rfl rfl rfl (by decide +kernel) ⟨Nat.le_of_ble_eq_true rfl, Nat.le_of_ble_eq_true rfl⟩) (lt_pV hK0 hPc (va_recv hK hPc (ci := 5) (q0 := 0) rfl rfl)) rfl rfl hl.1 rfl (lv_room (Nat.le_of_ble_eq_true rfl)) dX7_picture_80 ⟨Nat.zero_le _, Nat.zero_le _⟩) (fun r_80 e_r_80 => ?_)
          have hPc := hP.sub (ws' := ([] : va_W)) [] rfl
          refine lt_cR (va_runS (As := [.int r_80]) (rest := []) ⟨hx, hb, hml, hown, hts⟩ (c_X7_asNumber l D yI yC yO r_80 ) (va_cwS 1 hts gX7_picture_X7_asNumber rfl rfl rfl (by decide +kernel) ⟨Nat.le_of_ble_eq_true rfl, Nat.le_of_ble_eq_true rfl⟩) (lt_pS hK0 hPc) rfl rfl hl.1 rfl (lv_room (Nat.le_of_ble_eq_true rfl)) dX7_picture_83 ⟨Nat.zero_le _, Nat.zero_le _⟩) (fun r_83 e_r_83 => ?_)
          exact W.iret (v := r_83) hx hb hret (fun t ht hW => ⟨⟨r_83, (pi, pa, gs, ch), rfl, (by subst e_r_83 e_r_80 e_r_10; exact (Eq.symm (Eq.trans (if_neg c_13) (Eq.trans (if_neg h_19_0) (Eq.trans (if_neg h_19_1) (Eq.trans (if_pos h_19_2) rfl)))))), by rw [ht]; exact hP, hD⟩, hS.F ht⟩) hS.2.2 dX7_picture_86
        · rcases Decidable.em (p1 = 3) with h_19_3 | h_19_3
          · refine lv_tableIn (off := 68) (tgt := 87) hx hb dX7_picture_19 (by rw [h_19_3]; decide) (by rw [h_19_3]; decide) (by rw [h_19_3]; rfl) (by decide) ?_
            refine lv_aload_n hx hb dX7_picture_87 rfl (lv_at hl 1 rfl) ?_
            refine va_get (D := D) (ci := 7) (v := .ref (Pg 0)) (C := RX7) (T := TX7) (N := 7) hx hb hts iw_X7_picture_7 hown hK hP 0 rfl rfl 5 (by decide) (hts (.fieldLink RX7 39 "LeafTurner" "pageSet" "LLeafTurner$PageSet;") (by decide +kernel)) (fun _ h9 => h9) rfl dX7_picture_88 ?_
            refine lv_aload_n hx hb dX7_picture_91 rfl (lv_at hl 1 rfl) ?_
            refine va_get (D := D) (ci := 7) (v := .ref (B0_ 0)) (C := RX7) (T := TX7) (N := 7) hx hb hts iw_X7_picture_7 hown hK hP 0 rfl rfl 0 (by decide) (hts (.fieldLink RX7 10 "LeafTurner" "now" "LLeafTurner$State;") (by decide +kernel)) (fun _ h9 => h9) rfl dX7_picture_92 ?_
            have hPc := hP.sub (ws' := lt_Pg yI Pg pi pa gs ch ++ lt_St yI B0_ i0 a0) [20, 21, 22, 23, 24, 1, 2, 3, 4, 5, 6, 7, 8, 9, 10, 11, 12, 13, 14, 15, 16, 17, 18, 19] rfl
            have hDc := hD.sub (ws' := lt_Pg yI Pg pi pa gs ch ++ lt_St yI B0_ i0 a0) [20, 21, 22, 23, 24, 1, 2, 3, 4, 5, 6, 7, 8, 9, 10, 11, 12, 13, 14, 15, 16, 17, 18, 19] (by decide) rfl
            refine lt_cWv (wc := lt_Pg yI Pg pi pa gs ch ++ lt_St yI B0_ i0 a0) (wr := [(h, .inr (7, [.ref (B0_ 0), .ref (B1_ 0), .ref (B2_ 0), .ref (G 0), .ref (Tx 0), .ref (Pg 0), .int hs_]))]) (va_runV (As := [.ref (B0_ 0)]) (rest := []) ⟨hx, hb, hml, hown, hts⟩ (c_X4_makeFor l D yI yC yO Pg B0_ pi pa gs ch i0 a0 _ ) (cwV 1 hts gX7_picture_X4_makeFor rfl rfl rfl (by decide +kernel) ⟨Nat.le_of_ble_eq_true rfl, Nat.le_of_ble_eq_true rfl⟩) (lt_qV hK0 hPc hDc (va_recv hK hPc (ci := 4) (q0 := 0) rfl rfl)) rfl rfl hl.1 rfl (lv_room (Nat.le_of_ble_eq_true rfl)) dX7_picture_95 ⟨Nat.zero_le _, Nat.zero_le _⟩) hP hD hS hA [20, 21, 22, 23, 24, 1, 2, 3, 4, 5, 6, 7, 8, 9, 10, 11, 12, 13, 14, 15, 16, 17, 18, 19] [0] rfl rfl (by decide) (by decide) (fun x_95 e_x_95 H locs hP hD hS => ?_)
            have hP := hP.sub (ws' := lt_Lt h B0_ B1_ B2_ G Tx Pg hs_ ++ (lt_St yI B0_ i0 a0 ++ lt_Pg yI Pg x_95.1 x_95.2.1 x_95.2.2.1 x_95.2.2.2)) [0, 6, 7, 8, 9, 10, 11, 12, 13, 14, 15, 16, 17, 18, 19, 20, 21, 22, 23, 24, 1, 2, 3, 4, 5] rfl
            have hD := hD.sub (ws' := lt_Lt h B0_ B1_ B2_ G Tx Pg hs_ ++ (lt_St yI B0_ i0 a0 ++ lt_Pg yI Pg x_95.1 x_95.2.1 x_95.2.2.1 x_95.2.2.2)) [0, 6, 7, 8, 9, 10, 11, 12, 13, 14, 15, 16, 17, 18, 19, 20, 21, 22, 23, 24, 1, 2, 3, 4, 5] (by decide) rfl
            refine lv_aload_n hx hb dX7_picture_98 rfl (lv_at hl 1 rfl) ?_
            refine va_get (D := D) (ci := 7) (v := .ref (Pg 0)) (C := RX7) (T := TX7) (N := 7) hx hb hts iw_X7_picture_7 hown hK hP 0 rfl rfl 5 (by decide) (hts (.fieldLink RX7 39 "LeafTurner" "pageSet" "LLeafTurner$PageSet;") (by decide +kernel)) (fun _ h9 => h9) rfl dX7_picture_99 ?_
            refine va_getN (D := D) (ci := 4) (v := .ref (Pg 1)) (C := RX4) (T := TX4) (N := 4) hx hb hts iw_X7_picture_4 hown hK hP 20 rfl rfl 0 (by decide) (va_Nw.use rfl (hN _ lt_nw32)) (fun _ h9 => h9) rfl dX7_picture_102 ?_
            refine lv_iload_n hx hb dX7_picture_105 rfl (lv_at hl 2 rfl) ?_
            have hPc := hP.sub (ws' := lt_N2 yI (Pg 1) (Pg 2) 80 x_95.2.2.1) [21, 22] rfl
            refine lt_cR (va_runV (As := [.int p0]) (rest := []) ⟨hx, hb, hml, hown, hts⟩ (c_X3_at l D yI yC yO (Pg 1) (Pg 2) 80 x_95.2.2.1 p0 (by decide)) (cwV 1 hts gX7_picture_X3_at rfl rfl rfl (by decide +kernel) ⟨Nat.le_of_ble_eq_true rfl, Nat.le_of_ble_eq_true rfl⟩) (lt_pV hK0 hPc (va_recv hK hPc (ci := 3) (q0 := 0) rfl rfl)) rfl rfl hl.1 rfl (lv_room (Nat.le_of_ble_eq_true rfl)) dX7_picture_106 ⟨Nat.zero_le _, Nat.zero_le _⟩) (fun r_106 e_r_106 => ?_)
            exact W.iret (v := r_106) hx hb hret (fun t ht hW => ⟨⟨r_106, (x_95.1, x_95.2.1, x_95.2.2.1, x_95.2.2.2), rfl, (by subst e_r_106 e_x_95 e_r_10; exact (Eq.symm (Eq.trans (if_neg c_13) (Eq.trans (if_neg h_19_0) (Eq.trans (if_neg h_19_1) (Eq.trans (if_neg h_19_2) (Eq.trans (if_pos h_19_3) rfl))))))), by rw [ht]; exact hP, hD⟩, hS.F ht⟩) hS.2.2 dX7_picture_109
          · rcases Decidable.em (p1 = 4) with h_19_4 | h_19_4
            · refine lv_tableIn (off := 91) (tgt := 110) hx hb dX7_picture_19 (by rw [h_19_4]; decide) (by rw [h_19_4]; decide) (by rw [h_19_4]; rfl) (by decide) ?_
              refine lv_aload_n hx hb dX7_picture_110 rfl (lv_at hl 1 rfl) ?_
              refine va_get (D := D) (ci := 7) (v := .ref (Pg 0)) (C := RX7) (T := TX7) (N := 7) hx hb hts iw_X7_picture_7 hown hK hP 0 rfl rfl 5 (by decide) (hts (.fieldLink RX7 39 "LeafTurner" "pageSet" "LLeafTurner$PageSet;") (by decide +kernel)) (fun _ h9 => h9) rfl dX7_picture_111 ?_
              refine lv_aload_n hx hb dX7_picture_114 rfl (lv_at hl 1 rfl) ?_
              refine va_get (D := D) (ci := 7) (v := .ref (B0_ 0)) (C := RX7) (T := TX7) (N := 7) hx hb hts iw_X7_picture_7 hown hK hP 0 rfl rfl 0 (by decide) (hts (.fieldLink RX7 10 "LeafTurner" "now" "LLeafTurner$State;") (by decide +kernel)) (fun _ h9 => h9) rfl dX7_picture_115 ?_
              have hPc := hP.sub (ws' := lt_Pg yI Pg pi pa gs ch ++ lt_St yI B0_ i0 a0) [20, 21, 22, 23, 24, 1, 2, 3, 4, 5, 6, 7, 8, 9, 10, 11, 12, 13, 14, 15, 16, 17, 18, 19] rfl
              have hDc := hD.sub (ws' := lt_Pg yI Pg pi pa gs ch ++ lt_St yI B0_ i0 a0) [20, 21, 22, 23, 24, 1, 2, 3, 4, 5, 6, 7, 8, 9, 10, 11, 12, 13, 14, 15, 16, 17, 18, 19] (by decide) rfl
              refine lt_cWv (wc := lt_Pg yI Pg pi pa gs ch ++ lt_St yI B0_ i0 a0) (wr := [(h, .inr (7, [.ref (B0_ 0), .ref (B1_ 0), .ref (B2_ 0), .ref (G 0), .ref (Tx 0), .ref (Pg 0), .int hs_]))]) (va_runV (As := [.ref (B0_ 0)]) (rest := []) ⟨hx, hb, hml, hown, hts⟩ (c_X4_makeFor l D yI yC yO Pg B0_ pi pa gs ch i0 a0 _ ) (cwV 1 hts gX7_picture_X4_makeFor rfl rfl rfl (by decide +kernel) ⟨Nat.le_of_ble_eq_true rfl, Nat.le_of_ble_eq_true rfl⟩) (lt_qV hK0 hPc hDc (va_recv hK hPc (ci := 4) (q0 := 0) rfl rfl)) rfl rfl hl.1 rfl (lv_room (Nat.le_of_ble_eq_true rfl)) dX7_picture_118 ⟨Nat.zero_le _, Nat.zero_le _⟩) hP hD hS hA [20, 21, 22, 23, 24, 1, 2, 3, 4, 5, 6, 7, 8, 9, 10, 11, 12, 13, 14, 15, 16, 17, 18, 19] [0] rfl rfl (by decide) (by decide) (fun x_118 e_x_118 H locs hP hD hS => ?_)
              have hP := hP.sub (ws' := lt_Lt h B0_ B1_ B2_ G Tx Pg hs_ ++ (lt_St yI B0_ i0 a0 ++ lt_Pg yI Pg x_118.1 x_118.2.1 x_118.2.2.1 x_118.2.2.2)) [0, 6, 7, 8, 9, 10, 11, 12, 13, 14, 15, 16, 17, 18, 19, 20, 21, 22, 23, 24, 1, 2, 3, 4, 5] rfl
              have hD := hD.sub (ws' := lt_Lt h B0_ B1_ B2_ G Tx Pg hs_ ++ (lt_St yI B0_ i0 a0 ++ lt_Pg yI Pg x_118.1 x_118.2.1 x_118.2.2.1 x_118.2.2.2)) [0, 6, 7, 8, 9, 10, 11, 12, 13, 14, 15, 16, 17, 18, 19, 20, 21, 22, 23, 24, 1, 2, 3, 4, 5] (by decide) rfl
              refine lv_aload_n hx hb dX7_picture_121 rfl (lv_at hl 1 rfl) ?_
              refine va_get (D := D) (ci := 7) (v := .ref (Pg 0)) (C := RX7) (T := TX7) (N := 7) hx hb hts iw_X7_picture_7 hown hK hP 0 rfl rfl 5 (by decide) (hts (.fieldLink RX7 39 "LeafTurner" "pageSet" "LLeafTurner$PageSet;") (by decide +kernel)) (fun _ h9 => h9) rfl dX7_picture_122 ?_
              refine lv_iload_n hx hb dX7_picture_125 rfl (lv_at hl 2 rfl) ?_
              have hPc := hP.sub (ws' := lt_Pg yI Pg x_118.1 x_118.2.1 x_118.2.2.1 x_118.2.2.2) [20, 21, 22, 23, 24] rfl
              refine lt_cR (va_runV (As := [.int p0]) (rest := []) ⟨hx, hb, hml, hown, hts⟩ (c_X4_isSpare l D yI yC yO Pg x_118.1 x_118.2.1 x_118.2.2.1 x_118.2.2.2 p0 ) (cwV 1 hts gX7_picture_X4_isSpare rfl rfl rfl (by decide +kernel) ⟨Nat.le_of_ble_eq_true rfl, Nat.le_of_ble_eq_true rfl⟩) (lt_pV hK0 hPc (va_recv hK hPc (ci := 4) (q0 := 0) rfl rfl)) rfl rfl hl.1 rfl (lv_room (Nat.le_of_ble_eq_true rfl)) dX7_picture_126 ⟨Nat.zero_le _, Nat.zero_le _⟩) (fun r_126 e_r_126 => ?_)
              have hPc := hP.sub (ws' := ([] : va_W)) [] rfl
              refine lt_cR (va_runS (As := [.int r_126]) (rest := []) ⟨hx, hb, hml, hown, hts⟩ (c_X7_asNumber l D yI yC yO r_126 ) (va_cwS 1 hts gX7_picture_X7_asNumber rfl rfl rfl (by decide +kernel) ⟨Nat.le_of_ble_eq_true rfl, Nat.le_of_ble_eq_true rfl⟩) (lt_pS hK0 hPc) rfl rfl hl.1 rfl (lv_room (Nat.le_of_ble_eq_true rfl)) dX7_picture_129 ⟨Nat.zero_le _, Nat.zero_le _⟩) (fun r_129 e_r_129 => ?_)
              exact W.iret (v := r_129) hx hb hret (fun t ht hW => ⟨⟨r_129, (x_118.1, x_118.2.1, x_118.2.2.1, x_118.2.2.2), rfl, (by subst e_r_129 e_r_126 e_x_118 e_r_10; exact (Eq.symm (Eq.trans (if_neg c_13) (Eq.trans (if_neg h_19_0) (Eq.trans (if_neg h_19_1) (Eq.trans (if_neg h_19_2) (Eq.trans (if_neg h_19_3) (Eq.trans (if_pos h_19_4) rfl)))))))), by rw [ht]; exact hP, hD⟩, hS.F ht⟩) hS.2.2 dX7_picture_132
            · rcases Decidable.em (p1 = 5) with h_19_5 | h_19_5
              · refine lv_tableIn (off := 114) (tgt := 133) hx hb dX7_picture_19 (by rw [h_19_5]; decide) (by rw [h_19_5]; decide) (by rw [h_19_5]; rfl) (by decide) ?_
                refine lv_aload_n hx hb dX7_picture_133 rfl (lv_at hl 0 rfl) ?_
                refine va_getN (D := D) (ci := 5) (v := .ref (B0_ 9)) (C := RX5) (T := TX5) (N := 5) hx hb hts iw_X7_picture_5 hown hK hP 9 rfl rfl 0 (by decide) (va_Nw.use rfl (hN _ lt_nw10)) (fun _ h9 => h9) rfl dX7_picture_134 ?_
                refine lv_iload_n hx hb dX7_picture_137 rfl (lv_at hl 2 rfl) ?_
                have hPc := hP.sub (ws' := lt_N2 yI (B0_ 9) (B0_ 10) 80 (a0 3)) [10, 11] rfl
                refine lt_cR (va_runV (As := [.int p0]) (rest := []) ⟨hx, hb, hml, hown, hts⟩ (c_X3_at l D yI yC yO (B0_ 9) (B0_ 10) 80 (a0 3) p0 (by decide)) (cwV 1 hts gX7_picture_X3_at rfl rfl rfl (by decide +kernel) ⟨Nat.le_of_ble_eq_true rfl, Nat.le_of_ble_eq_true rfl⟩) (lt_pV hK0 hPc (va_recv hK hPc (ci := 3) (q0 := 0) rfl rfl)) rfl rfl hl.1 rfl (lv_room (Nat.le_of_ble_eq_true rfl)) dX7_picture_138 ⟨Nat.zero_le _, Nat.zero_le _⟩) (fun r_138 e_r_138 => ?_)
                have hPc := hP.sub (ws' := ([] : va_W)) [] rfl
                refine lt_cR (va_runS (As := [.int r_138]) (rest := []) ⟨hx, hb, hml, hown, hts⟩ (c_X7_isRightPage l D yI yC yO r_138 ) (va_cwS 1 hts gX7_picture_X7_isRightPage rfl rfl rfl (by decide +kernel) ⟨Nat.le_of_ble_eq_true rfl, Nat.le_of_ble_eq_true rfl⟩) (lt_pS hK0 hPc) rfl rfl hl.1 rfl (lv_room (Nat.le_of_ble_eq_true rfl)) dX7_picture_141 ⟨Nat.zero_le _, Nat.zero_le _⟩) (fun r_141 e_r_141 => ?_)
                have hPc := hP.sub (ws' := ([] : va_W)) [] rfl
                refine lt_cR (va_runS (As := [.int r_141]) (rest := []) ⟨hx, hb, hml, hown, hts⟩ (c_X7_asNumber l D yI yC yO r_141 ) (va_cwS 1 hts gX7_picture_X7_asNumber rfl rfl rfl (by decide +kernel) ⟨Nat.le_of_ble_eq_true rfl, Nat.le_of_ble_eq_true rfl⟩) (lt_pS hK0 hPc) rfl rfl hl.1 rfl (lv_room (Nat.le_of_ble_eq_true rfl)) dX7_picture_144 ⟨Nat.zero_le _, Nat.zero_le _⟩) (fun r_144 e_r_144 => ?_)
                exact W.iret (v := r_144) hx hb hret (fun t ht hW => ⟨⟨r_144, (pi, pa, gs, ch), rfl, (by subst e_r_144 e_r_141 e_r_138 e_r_10; exact (Eq.symm (Eq.trans (if_neg c_13) (Eq.trans (if_neg h_19_0) (Eq.trans (if_neg h_19_1) (Eq.trans (if_neg h_19_2) (Eq.trans (if_neg h_19_3) (Eq.trans (if_neg h_19_4) (Eq.trans (if_pos h_19_5) rfl))))))))), by rw [ht]; exact hP, hD⟩, hS.F ht⟩) hS.2.2 dX7_picture_147
              · rcases Decidable.em (p1 = 6) with h_19_6 | h_19_6
                · refine lv_tableIn (off := 129) (tgt := 148) hx hb dX7_picture_19 (by rw [h_19_6]; decide) (by rw [h_19_6]; decide) (by rw [h_19_6]; rfl) (by decide) ?_
                  refine lv_aload_n hx hb dX7_picture_148 rfl (lv_at hl 0 rfl) ?_
                  refine va_getN (D := D) (ci := 5) (v := .ref (B0_ 15)) (C := RX5) (T := TX5) (N := 5) hx hb hts iw_X7_picture_5 hown hK hP 9 rfl rfl 3 (by decide) (va_Nw.use rfl (hN _ lt_nw13)) (fun _ h9 => h9) rfl dX7_picture_149 ?_
                  refine lv_iload_n hx hb dX7_picture_152 rfl (lv_at hl 2 rfl) ?_
                  have hPc := hP.sub (ws' := lt_N2 yI (B0_ 15) (B0_ 16) 80 (a0 6)) [16, 17] rfl
                  refine lt_cR (va_runV (As := [.int p0]) (rest := []) ⟨hx, hb, hml, hown, hts⟩ (c_X3_at l D yI yC yO (B0_ 15) (B0_ 16) 80 (a0 6) p0 (by decide)) (cwV 1 hts gX7_picture_X3_at rfl rfl rfl (by decide +kernel) ⟨Nat.le_of_ble_eq_true rfl, Nat.le_of_ble_eq_true rfl⟩) (lt_pV hK0 hPc (va_recv hK hPc (ci := 3) (q0 := 0) rfl rfl)) rfl rfl hl.1 rfl (lv_room (Nat.le_of_ble_eq_true rfl)) dX7_picture_153 ⟨Nat.zero_le _, Nat.zero_le _⟩) (fun r_153 e_r_153 => ?_)
                  exact W.iret (v := r_153) hx hb hret (fun t ht hW => ⟨⟨r_153, (pi, pa, gs, ch), rfl, (by subst e_r_153 e_r_10; exact (Eq.symm (Eq.trans (if_neg c_13) (Eq.trans (if_neg h_19_0) (Eq.trans (if_neg h_19_1) (Eq.trans (if_neg h_19_2) (Eq.trans (if_neg h_19_3) (Eq.trans (if_neg h_19_4) (Eq.trans (if_neg h_19_5) (Eq.trans (if_pos h_19_6) rfl)))))))))), by rw [ht]; exact hP, hD⟩, hS.F ht⟩) hS.2.2 dX7_picture_156
                · refine lv_tableOut (tgt := 157) hx hb dX7_picture_19 (lt_sw0_6 h_19_0 h_19_1 h_19_2 h_19_3 h_19_4 h_19_5 h_19_6) (by decide) ?_
                  refine lv_bipush (v := (-2)) hx hb dX7_picture_157 (by decide) ?_
                  exact W.iret (v := (-2)) hx hb hret (fun t ht hW => ⟨⟨(-2), (pi, pa, gs, ch), rfl, (by subst e_r_10; exact (Eq.symm (Eq.trans (if_neg c_13) (Eq.trans (if_neg h_19_0) (Eq.trans (if_neg h_19_1) (Eq.trans (if_neg h_19_2) (Eq.trans (if_neg h_19_3) (Eq.trans (if_neg h_19_4) (Eq.trans (if_neg h_19_5) (Eq.trans (if_neg h_19_6) rfl)))))))))), by rw [ht]; exact hP, hD⟩, hS.F ht⟩) hS.2.2 dX7_picture_159
  · refine lv_iconst (v := (-1)) hx hb dX7_picture_16 (by decide) ?_
    exact W.iret (v := (-1)) hx hb hret (fun t ht hW => ⟨⟨(-1), (pi, pa, gs, ch), rfl, (by subst e_r_10; exact (Eq.symm (Eq.trans (if_pos c_13) rfl))), by rw [ht]; exact hP, hD⟩, hS.F ht⟩) hS.2.2 dX7_picture_17
