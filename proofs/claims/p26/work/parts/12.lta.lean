abbrev lt_Lt (h : Nat) (B0_ B1_ B2_ G Tx Pg : Nat → Nat) (hs_ : Int32) : va_W := [(h, .inr (7, [.ref (B0_ 0), .ref (B1_ 0), .ref (B2_ 0), .ref (G 0), .ref (Tx 0), .ref (Pg 0), .int hs_]))]
def lt_most : Nat → Int32 := fun j => if j = 0 then 10 else if j = 1 then 1 else 99
def lt_Zx (nm : String) (tab : Nat → Int32) (A : Nat → Prop) (U : State) (H : Heap) : Prop := ∃ tm : Nat, va_Z "LeafTurner" nm "[I" (.ref tm) A U H ∧ va_T .int tm 3 (fun j => .int (tab j)) A U H
theorem lt_Zx.call {nm : String} {tab : Nat → Int32} {A : Nat → Prop} {U : State} {g : JFrame} {mk : MethodId} {a : Array Value} (h : lt_Zx nm tab A U U.heap) : lt_Zx nm tab A (U.calling g mk a) (U.calling g mk a).heap := by
  obtain ⟨tm, h1, h2⟩ := h
  exact ⟨tm, va_Z.moved (u := U) (U := U.calling g mk a) (Vm.Alike.refl U.vm) h1, va_T.moved (u := U) (U := U.calling g mk a) (Vm.Alike.refl U.vm) h2⟩
theorem lt_Zx.to {nm : String} {tab : Nat → Int32} {A B : Nat → Prop} {s U : State} {H : Heap} {locs : List Loc} (h : lt_Zx nm tab A s s.heap) (hS : va_S A s.heap H locs) (hF : ∀ q, B q → A q) (hW : s.WarmedH U.vm) (hU : U.heap = H) : lt_Zx nm tab B U U.heap := by
  obtain ⟨tm, h1, h2⟩ := h
  rw [hU]
  exact ⟨tm, va_Z.moved hW.alike (va_Z.narrow (va_Z.kept h1 hS.2.1) hF), va_T.moved hW.alike (va_T.narrow (va_T.kept h2 hS.2.1) hF)⟩
def lt_Zt (A : Nat → Prop) (U : State) : Prop := lt_Zx "SETTING_AT_MOST" lt_most A U U.heap
def lt_Ms (D : va_G) (yI yC yO : ClassId) (ws : va_W) (sz : Nat) (U : State) : Prop := lt_M D yI yC yO ws sz U ∧ lt_Zt (va_A ws sz) U
theorem lt_qVs {D : va_G} {yI yC yO : ClassId} {s : State} {H : Heap} {C : String} {b : Nat} {As : List Value} {ws : va_W} {A : Nat → Prop} {locs : List Loc} (hK : lt_K D yI yC yO s) (hP : va_P D vwCl ws H) (hD : va_D A ws) (rec : ∃ cellB : Cell, H[b]? = some cellB ∧ cellB.vm.isStatics = false ∧ s.vm.findClass C = some cellB.cls) (hZ : lt_Zt A s) (hS : va_S A s.heap H locs) (hF : ∀ q, va_A ws H.size q → A q) : PreV s H C b (va_Pc (.ref b :: As) (lt_Ms D yI yC yO ws H.size)) As :=
  ⟨fun _ _ _ _ q => ⟨q.1, ⟨q.2.1.1, q.2.1.2.1, q.2.1.2.2.1.call, q.2.1.2.2.2⟩, lt_Zx.call q.2.2⟩, rec, fun U hU hW => ⟨rfl, ⟨by rw [hU], by rw [hU]; exact hP, hK.warm hW, hD.weaken (fun _ _ _ _ => trivial)⟩, lt_Zx.to hZ hS hF hW hU⟩⟩
theorem lt_le20 {v : Int32} (h : ¬ 20 < v) : v < 21 := by
  have h1 := Int32.le_iff_toInt_le.mp (lt_nlt h)
  have h2 : (20 : Int32).toInt = 20 := by decide
  have h3 : (21 : Int32).toInt = 21 := by decide
  exact Int32.lt_iff_toInt_lt.mpr (by omega)

def X7_type (hs_ : Int32) (len : Int32) (sg : Nat → Int32) (p0 : Int32) : Int32 × ((Int32) × (Nat → Int32)) :=
  if len < 60 then
    let x_20 := X1_add len sg p0
    (x_20.1, (x_20.1, x_20.2))
  else
    ((-3), (len, sg))
theorem iw_X7_type_7 : ∀ w ∈ wsX70, w ∈ wsX7_type := by decide +kernel
theorem iw_X7_type_1 : ∀ w ∈ wsX10, w ∈ wsX7_type := by decide +kernel
set_option maxHeartbeats 4000000 in
set_option maxRecDepth 100000 in
theorem c_X7_type (l : Launch) (D : va_G) (yI yC yO : ClassId) (h : Nat) (B0_ : Nat → Nat) (B1_ : Nat → Nat) (B2_ : Nat → Nat) (G : Nat → Nat) (Tx : Nat → Nat) (Pg : Nat → Nat) (hs_ : Int32) (len : Int32) (sg : Nat → Int32) (p0 : Int32) (sz : Nat) : Met l yX7_type wsX7_type ({ frames := 1, cells := 0, slots := 0, locals := 30 }) (va_Pc [.ref h, .int p0] (lt_M D yI yC yO (lt_Lt h B0_ B1_ B2_ G Tx Pg hs_ ++ lt_Tx yC Tx len sg) sz)) (lt_Qi D (X7_type hs_ len sg p0) (fun u => lt_Lt h B0_ B1_ B2_ G Tx Pg hs_ ++ lt_Tx yC Tx u.1 u.2) (va_A (lt_Lt h B0_ B1_ B2_ G Tx Pg hs_ ++ lt_Tx yC Tx len sg) sz)) 0 0 (va_A (lt_Lt h B0_ B1_ B2_ G Tx Pg hs_ ++ lt_Tx yC Tx len sg) sz) := by
  refine Met.ofW (cc := cX7_type) (maxL := 2) (ret := (some .int)) (by decide) rfl ?_
  intro p e s m args below meth c s₁ B0 hml hv
  obtain ⟨rfl, hsz, hP, hK0, hD0⟩ := hv
  have hx := B0.exec
  have hb := B0.bytes
  have hret := B0.returns
  have hts := atoms_spec (ws := wsX7_type) B0.pre
  have hown : s.vm.findClass RX7 = some m.cls := findClass_of_methodNamed B0.named
  have hlocks := B0.notSynchronized
  have hK := hK0.1
  have hN := hK0.2
  subst hsz
  have hD := hD0.self (sz := s.heap.size)
  generalize hAe : va_A (lt_Lt h B0_ B1_ B2_ G Tx Pg hs_ ++ lt_Tx yC Tx len sg) s.heap.size = A at hD ⊢
  have hA : ∀ q : Nat, s.heap.size ≤ q → A q := fun q h => by rw [← hAe]; exact Or.inr h
  have hS : va_S A s.heap s.heap [] := va_S.rf
  have hP : va_P D vwCl (lt_Lt h B0_ B1_ B2_ G Tx Pg hs_ ++ lt_Tx yC Tx len sg) s.heap := hP
  have hD : va_D A (lt_Lt h B0_ B1_ B2_ G Tx Pg hs_ ++ lt_Tx yC Tx len sg) := hD
  have hl := lv_entry ([.ref h, .int p0]) (n := 2) (Nat.le_of_ble_eq_true rfl)
  rw [lg_entry_eq]
  generalize (lg_sl ([.ref h, .int p0]) ++ List.replicate (2 - (lg_sl ([.ref h, .int p0])).length) Slot.unset).toArray = ls at hl ⊢
  have hl : lv_has ls 2 [(0, .ref h), (1, .int p0)] := hl
  refine lv_aload_n hx hb dX7_type_0 rfl (lv_at hl 0 rfl) ?_
  refine va_get (D := D) (ci := 7) (v := .ref (Tx 0)) (C := RX7) (T := TX7) (N := 7) hx hb hts iw_X7_type_7 hown hK hP 0 rfl rfl 4 (by decide) (hts (.fieldLink RX7 32 "LeafTurner" "text" "LLeafTurner$BookText;") (by decide +kernel)) (fun _ h9 => h9) rfl dX7_type_1 ?_
  refine va_getN (D := D) (ci := 1) (v := .int len) (C := RX1) (T := TX1) (N := 2) hx hb hts iw_X7_type_1 hown hK hP 1 rfl rfl 1 (by decide) (va_Nw.use rfl (hN _ lt_nw31)) (fun _ h9 => h9) rfl dX7_type_4 ?_
  refine lv_bipush (v := 60) hx hb dX7_type_7 (by decide) ?_
  refine lv_icmp_lt (tgt := 15) hx hb dX7_type_9 (by decide) (fun c_9 => ?_) (fun c_9 => ?_)
  · refine lv_aload_n hx hb dX7_type_15 rfl (lv_at hl 0 rfl) ?_
    refine va_get (D := D) (ci := 7) (v := .ref (Tx 0)) (C := RX7) (T := TX7) (N := 7) hx hb hts iw_X7_type_7 hown hK hP 0 rfl rfl 4 (by decide) (hts (.fieldLink RX7 32 "LeafTurner" "text" "LLeafTurner$BookText;") (by decide +kernel)) (fun _ h9 => h9) rfl dX7_type_16 ?_
    refine lv_iload_n hx hb dX7_type_19 rfl (lv_at hl 1 rfl) ?_
    have hPc := hP.sub (ws' := lt_Tx yC Tx len sg) [1, 2] rfl
    have hDc := hD.sub (ws' := lt_Tx yC Tx len sg) [1, 2] (by decide) rfl
    refine lt_cWv (wc := lt_Tx yC Tx len sg) (wr := [(h, .inr (7, [.ref (B0_ 0), .ref (B1_ 0), .ref (B2_ 0), .ref (G 0), .ref (Tx 0), .ref (Pg 0), .int hs_]))]) (va_runV (As := [.int p0]) (rest := []) ⟨hx, hb, hml, hown, hts⟩ (c_X1_add l D yI yC yO Tx len sg p0 _ ) (cwV 1 hts gX7_type_X1_add rfl rfl rfl (by decide +kernel) ⟨Nat.le_of_ble_eq_true rfl, Nat.le_of_ble_eq_true rfl⟩) (lt_qV hK0 hPc hDc (va_recv hK hPc (ci := 1) (q0 := 0) rfl rfl)) rfl rfl hl.1 rfl (lv_room (Nat.le_of_ble_eq_true rfl)) dX7_type_20 ⟨Nat.zero_le _, Nat.zero_le _⟩) hP hD hS hA [1, 2] [0] rfl rfl (by decide) (by decide) (fun x_20 e_x_20 H locs hP hD hS => ?_)
    have hP := hP.sub (ws' := lt_Lt h B0_ B1_ B2_ G Tx Pg hs_ ++ lt_Tx yC Tx x_20.1 x_20.2) [0, 1, 2] rfl
    have hD := hD.sub (ws' := lt_Lt h B0_ B1_ B2_ G Tx Pg hs_ ++ lt_Tx yC Tx x_20.1 x_20.2) [0, 1, 2] (by decide) rfl
    refine lv_aload_n hx hb dX7_type_23 rfl (lv_at hl 0 rfl) ?_
    refine va_get (D := D) (ci := 7) (v := .ref (Tx 0)) (C := RX7) (T := TX7) (N := 7) hx hb hts iw_X7_type_7 hown hK hP 0 rfl rfl 4 (by decide) (hts (.fieldLink RX7 32 "LeafTurner" "text" "LLeafTurner$BookText;") (by decide +kernel)) (fun _ h9 => h9) rfl dX7_type_24 ?_
    refine va_getN (D := D) (ci := 1) (v := .int x_20.1) (C := RX1) (T := TX1) (N := 2) hx hb hts iw_X7_type_1 hown hK hP 1 rfl rfl 1 (by decide) (va_Nw.use rfl (hN _ lt_nw31)) (fun _ h9 => h9) rfl dX7_type_27 ?_
    exact W.iret (v := x_20.1) hx hb hret (fun t ht hW => ⟨⟨x_20.1, (x_20.1, x_20.2), rfl, (by subst e_x_20; exact (Eq.symm (Eq.trans (if_pos c_9) rfl))), by rw [ht]; exact hP, hD⟩, hS.F ht⟩) hS.2.2 dX7_type_30
  · refine lv_bipush (v := (-3)) hx hb dX7_type_12 (by decide) ?_
    exact W.iret (v := (-3)) hx hb hret (fun t ht hW => ⟨⟨(-3), (len, sg), rfl, (Eq.symm (Eq.trans (if_neg c_9) rfl)), by rw [ht]; exact hP, hD⟩, hS.F ht⟩) hS.2.2 dX7_type_14

def X7_clearText (hs_ : Int32) (len : Int32) (sg : Nat → Int32) : Int32 × ((Int32) × (Nat → Int32)) :=
  (len, (0, sg))
theorem iw_X7_clearText_7 : ∀ w ∈ wsX70, w ∈ wsX7_clearText := by decide +kernel
theorem iw_X7_clearText_1 : ∀ w ∈ wsX10, w ∈ wsX7_clearText := by decide +kernel
set_option maxHeartbeats 4000000 in
set_option maxRecDepth 100000 in
theorem c_X7_clearText (l : Launch) (D : va_G) (yI yC yO : ClassId) (h : Nat) (B0_ : Nat → Nat) (B1_ : Nat → Nat) (B2_ : Nat → Nat) (G : Nat → Nat) (Tx : Nat → Nat) (Pg : Nat → Nat) (hs_ : Int32) (len : Int32) (sg : Nat → Int32) (sz : Nat) : Met l yX7_clearText wsX7_clearText ({ frames := 0, cells := 0, slots := 0, locals := 0 }) (va_Pc [.ref h] (lt_M D yI yC yO (lt_Lt h B0_ B1_ B2_ G Tx Pg hs_ ++ lt_Tx yC Tx len sg) sz)) (lt_Qi D (X7_clearText hs_ len sg) (fun u => lt_Lt h B0_ B1_ B2_ G Tx Pg hs_ ++ lt_Tx yC Tx u.1 u.2) (va_A (lt_Lt h B0_ B1_ B2_ G Tx Pg hs_ ++ lt_Tx yC Tx len sg) sz)) 0 0 (va_A (lt_Lt h B0_ B1_ B2_ G Tx Pg hs_ ++ lt_Tx yC Tx len sg) sz) := by
  refine Met.ofW (cc := cX7_clearText) (maxL := 2) (ret := (some .int)) (by decide) rfl ?_
  intro p e s m args below meth c s₁ B0 hml hv
  obtain ⟨rfl, hsz, hP, hK0, hD0⟩ := hv
  have hx := B0.exec
  have hb := B0.bytes
  have hret := B0.returns
  have hts := atoms_spec (ws := wsX7_clearText) B0.pre
  have hown : s.vm.findClass RX7 = some m.cls := findClass_of_methodNamed B0.named
  have hlocks := B0.notSynchronized
  have hK := hK0.1
  have hN := hK0.2
  subst hsz
  have hD := hD0.self (sz := s.heap.size)
  generalize hAe : va_A (lt_Lt h B0_ B1_ B2_ G Tx Pg hs_ ++ lt_Tx yC Tx len sg) s.heap.size = A at hD ⊢
  have hA : ∀ q : Nat, s.heap.size ≤ q → A q := fun q h => by rw [← hAe]; exact Or.inr h
  have hS : va_S A s.heap s.heap [] := va_S.rf
  have hP : va_P D vwCl (lt_Lt h B0_ B1_ B2_ G Tx Pg hs_ ++ lt_Tx yC Tx len sg) s.heap := hP
  have hD : va_D A (lt_Lt h B0_ B1_ B2_ G Tx Pg hs_ ++ lt_Tx yC Tx len sg) := hD
  have hl := lv_entry ([.ref h]) (n := 2) (Nat.le_of_ble_eq_true rfl)
  rw [lg_entry_eq]
  generalize (lg_sl ([.ref h]) ++ List.replicate (2 - (lg_sl ([.ref h])).length) Slot.unset).toArray = ls at hl ⊢
  have hl : lv_has ls 2 [(0, .ref h)] := hl
  refine lv_aload_n hx hb dX7_clearText_0 rfl (lv_at hl 0 rfl) ?_
  refine va_get (D := D) (ci := 7) (v := .ref (Tx 0)) (C := RX7) (T := TX7) (N := 7) hx hb hts iw_X7_clearText_7 hown hK hP 0 rfl rfl 4 (by decide) (hts (.fieldLink RX7 32 "LeafTurner" "text" "LLeafTurner$BookText;") (by decide +kernel)) (fun _ h9 => h9) rfl dX7_clearText_1 ?_
  refine va_getN (D := D) (ci := 1) (v := .int len) (C := RX1) (T := TX1) (N := 2) hx hb hts iw_X7_clearText_1 hown hK hP 1 rfl rfl 1 (by decide) (va_Nw.use rfl (hN _ lt_nw31)) (fun _ h9 => h9) rfl dX7_clearText_4 ?_
  refine lv_istore_n (lv' := [(1, .int len), (0, .ref h)]) hx hb dX7_clearText_7 rfl hl (by decide) rfl (fun ls hl => ?_)
  refine lv_aload_n hx hb dX7_clearText_8 rfl (lv_at hl 1 rfl) ?_
  refine va_get (D := D) (ci := 7) (v := .ref (Tx 0)) (C := RX7) (T := TX7) (N := 7) hx hb hts iw_X7_clearText_7 hown hK hP 0 rfl rfl 4 (by decide) (hts (.fieldLink RX7 32 "LeafTurner" "text" "LLeafTurner$BookText;") (by decide +kernel)) (fun _ h9 => h9) rfl dX7_clearText_9 ?_
  refine lv_iconst (v := 0) hx hb dX7_clearText_12 (by decide) ?_
  refine va_putN (D := D) (ci := 1) (v := .int 0) (ty := .int) (C := RX1) (T := TX1) (N := 2) hx hb hts iw_X7_clearText_1 tyX1 tyX1_ok nmX1 hown hK hP hD hS 1 rfl rfl 1 (by decide) (va_Nw.use rfl (hN _ lt_nw31)) (fun _ h9 => h9) rfl (by decide +kernel) rfl rfl (Nat.le_of_ble_eq_true rfl) dX7_clearText_13 (fun H locs hP hD hS => ?_)
  have hP : va_P D vwCl (lt_Lt h B0_ B1_ B2_ G Tx Pg hs_ ++ lt_Tx yC Tx 0 sg) H := hP
  have hD : va_D A (lt_Lt h B0_ B1_ B2_ G Tx Pg hs_ ++ lt_Tx yC Tx 0 sg) := hD
  refine lv_iload_n hx hb dX7_clearText_16 rfl (lv_at hl 0 rfl) ?_
  exact W.iret (v := len) hx hb hret (fun t ht hW => ⟨⟨len, (0, sg), rfl, (Eq.symm rfl), by rw [ht]; exact hP, hD⟩, hS.F ht⟩) hS.2.2 dX7_clearText_17

def X7_leaf (hs_ : Int32) (i0 : Nat → Int32) (a0 : Nat → Nat → Int32) (p0 : Int32) (p1 : Int32) : Int32 :=
  if p0 < 0 then
    (-1)
  else
    if p0 < (i0 0) then
      if p1 = 0 then
        let r_59 := X3_at 30 (a0 0) p0
        r_59
      else
        if p1 = 1 then
          let r_74 := X3_at 30 (a0 1) p0
          r_74
        else
          if p1 = 2 then
            if (i0 1) ≤ p0 then
              let r_94 := X7_asNumber 0
              r_94
            else
              let r_94 := X7_asNumber 1
              r_94
          else
            (-2)
    else
      (-1)
theorem iw_X7_leaf_7 : ∀ w ∈ wsX70, w ∈ wsX7_leaf := by decide +kernel
theorem iw_X7_leaf_6 : ∀ w ∈ wsX60, w ∈ wsX7_leaf := by decide +kernel
theorem iw_X7_leaf_0 : ∀ w ∈ wsX00, w ∈ wsX7_leaf := by decide +kernel
set_option maxHeartbeats 4000000 in
set_option maxRecDepth 100000 in
theorem c_X7_leaf (l : Launch) (D : va_G) (yI yC yO : ClassId) (h : Nat) (B0_ : Nat → Nat) (B1_ : Nat → Nat) (B2_ : Nat → Nat) (G : Nat → Nat) (Tx : Nat → Nat) (Pg : Nat → Nat) (hs_ : Int32) (i0 : Nat → Int32) (a0 : Nat → Nat → Int32) (p0 : Int32) (p1 : Int32) : Met l yX7_leaf wsX7_leaf ({ frames := 2, cells := 0, slots := 0, locals := 60 }) (va_Pc [.ref h, .int p0, .int p1] (lt_R D yI yC yO (lt_Lt h B0_ B1_ B2_ G Tx Pg hs_ ++ lt_St yI B0_ i0 a0))) (lt_Si (X7_leaf hs_ i0 a0 p0 p1)) 0 0 (fun _ => False) := by
  refine Met.ofW (cc := cX7_leaf) (maxL := 3) (ret := (some .int)) (by decide) rfl ?_
  intro p e s m args below meth c s₁ B0 hml hv
  obtain ⟨rfl, hP, hK0⟩ := hv
  have hx := B0.exec
  have hb := B0.bytes
  have hret := B0.returns
  have hts := atoms_spec (ws := wsX7_leaf) B0.pre
  have hown : s.vm.findClass RX7 = some m.cls := findClass_of_methodNamed B0.named
  have hlocks := B0.notSynchronized
  have hK := hK0.1
  have hN := hK0.2
  have hP : va_P D vwCl (lt_Lt h B0_ B1_ B2_ G Tx Pg hs_ ++ lt_St yI B0_ i0 a0) s.heap := hP
  have hl := lv_entry ([.ref h, .int p0, .int p1]) (n := 3) (Nat.le_of_ble_eq_true rfl)
  rw [lg_entry_eq]
  generalize (lg_sl ([.ref h, .int p0, .int p1]) ++ List.replicate (3 - (lg_sl ([.ref h, .int p0, .int p1])).length) Slot.unset).toArray = ls at hl ⊢
  have hl : lv_has ls 3 [(0, .ref h), (1, .int p0), (2, .int p1)] := hl
  refine lv_iload_n hx hb dX7_leaf_0 rfl (lv_at hl 1 rfl) ?_
  refine lv_if_lt (tgt := 18) hx hb dX7_leaf_1 (by decide) (fun c_1 => ?_) (fun c_1 => ?_)
  · refine lv_iconst (v := (-1)) hx hb dX7_leaf_18 (by decide) ?_
    exact W.iret (v := (-1)) hx hb hret (fun t ht hW => ⟨(-1), rfl, (Eq.symm (Eq.trans (if_pos c_1) rfl)), ht⟩) (fun _ h => absurd h List.not_mem_nil) dX7_leaf_19
  · refine lv_iload_n hx hb dX7_leaf_4 rfl (lv_at hl 1 rfl) ?_
    refine lv_aload_n hx hb dX7_leaf_5 rfl (lv_at hl 0 rfl) ?_
    refine va_get (D := D) (ci := 7) (v := .ref (B0_ 0)) (C := RX7) (T := TX7) (N := 7) hx hb hts iw_X7_leaf_7 hown hK hP 0 rfl rfl 0 (by decide) (hts (.fieldLink RX7 10 "LeafTurner" "now" "LLeafTurner$State;") (by decide +kernel)) (fun _ h9 => h9) rfl dX7_leaf_6 ?_
    refine va_getN (D := D) (ci := 6) (v := .ref (B0_ 1)) (C := RX6) (T := TX6) (N := 10) hx hb hts iw_X7_leaf_6 hown hK hP 1 rfl rfl 0 (by decide) (va_Nw.use rfl (hN _ lt_nw18)) (fun _ h9 => h9) rfl dX7_leaf_9 ?_
    refine va_getN (D := D) (ci := 0) (v := .int (i0 0)) (C := RX0) (T := TX0) (N := 4) hx hb hts iw_X7_leaf_0 hown hK hP 2 rfl rfl 3 (by decide) (va_Nw.use rfl (hN _ lt_nw6)) (fun _ h9 => h9) rfl dX7_leaf_12 ?_
    refine lv_icmp_lt (tgt := 20) hx hb dX7_leaf_15 (by decide) (fun c_15 => ?_) (fun c_15 => ?_)
    · refine lv_iload_n hx hb dX7_leaf_20 rfl (lv_at hl 2 rfl) ?_
      rcases Decidable.em (p1 = 0) with h_21_0 | h_21_0
      · refine lv_tableIn (off := 27) (tgt := 48) hx hb dX7_leaf_21 (by rw [h_21_0]; decide) (by rw [h_21_0]; decide) (by rw [h_21_0]; rfl) (by decide) ?_
        refine lv_aload_n hx hb dX7_leaf_48 rfl (lv_at hl 0 rfl) ?_
        refine va_get (D := D) (ci := 7) (v := .ref (B0_ 0)) (C := RX7) (T := TX7) (N := 7) hx hb hts iw_X7_leaf_7 hown hK hP 0 rfl rfl 0 (by decide) (hts (.fieldLink RX7 10 "LeafTurner" "now" "LLeafTurner$State;") (by decide +kernel)) (fun _ h9 => h9) rfl dX7_leaf_49 ?_
        refine va_getN (D := D) (ci := 6) (v := .ref (B0_ 1)) (C := RX6) (T := TX6) (N := 10) hx hb hts iw_X7_leaf_6 hown hK hP 1 rfl rfl 0 (by decide) (va_Nw.use rfl (hN _ lt_nw18)) (fun _ h9 => h9) rfl dX7_leaf_52 ?_
        refine va_getN (D := D) (ci := 0) (v := .ref (B0_ 2)) (C := RX0) (T := TX0) (N := 4) hx hb hts iw_X7_leaf_0 hown hK hP 2 rfl rfl 0 (by decide) (va_Nw.use rfl (hN _ lt_nw1)) (fun _ h9 => h9) rfl dX7_leaf_55 ?_
        refine lv_iload_n hx hb dX7_leaf_58 rfl (lv_at hl 1 rfl) ?_
        have hPc := hP.sub (ws' := lt_N2 yI (B0_ 2) (B0_ 3) 30 (a0 0)) [3, 4] rfl
        refine lt_cR (va_runV (As := [.int p0]) (rest := []) ⟨hx, hb, hml, hown, hts⟩ (c_X3_at l D yI yC yO (B0_ 2) (B0_ 3) 30 (a0 0) p0 (by decide)) (cwV 1 hts gX7_leaf_X3_at rfl rfl rfl (by decide +kernel) ⟨Nat.le_of_ble_eq_true rfl, Nat.le_of_ble_eq_true rfl⟩) (lt_pV hK0 hPc (va_recv hK hPc (ci := 3) (q0 := 0) rfl rfl)) rfl rfl hl.1 rfl (lv_room (Nat.le_of_ble_eq_true rfl)) dX7_leaf_59 ⟨Nat.zero_le _, Nat.zero_le _⟩) (fun r_59 e_r_59 => ?_)
        exact W.iret (v := r_59) hx hb hret (fun t ht hW => ⟨r_59, rfl, (by subst e_r_59; exact (Eq.symm (Eq.trans (if_neg c_1) (Eq.trans (if_pos c_15) (Eq.trans (if_pos h_21_0) rfl))))), ht⟩) (fun _ h => absurd h List.not_mem_nil) dX7_leaf_62
      · rcases Decidable.em (p1 = 1) with h_21_1 | h_21_1
        · refine lv_tableIn (off := 42) (tgt := 63) hx hb dX7_leaf_21 (by rw [h_21_1]; decide) (by rw [h_21_1]; decide) (by rw [h_21_1]; rfl) (by decide) ?_
          refine lv_aload_n hx hb dX7_leaf_63 rfl (lv_at hl 0 rfl) ?_
          refine va_get (D := D) (ci := 7) (v := .ref (B0_ 0)) (C := RX7) (T := TX7) (N := 7) hx hb hts iw_X7_leaf_7 hown hK hP 0 rfl rfl 0 (by decide) (hts (.fieldLink RX7 10 "LeafTurner" "now" "LLeafTurner$State;") (by decide +kernel)) (fun _ h9 => h9) rfl dX7_leaf_64 ?_
          refine va_getN (D := D) (ci := 6) (v := .ref (B0_ 1)) (C := RX6) (T := TX6) (N := 10) hx hb hts iw_X7_leaf_6 hown hK hP 1 rfl rfl 0 (by decide) (va_Nw.use rfl (hN _ lt_nw18)) (fun _ h9 => h9) rfl dX7_leaf_67 ?_
          refine va_getN (D := D) (ci := 0) (v := .ref (B0_ 4)) (C := RX0) (T := TX0) (N := 4) hx hb hts iw_X7_leaf_0 hown hK hP 2 rfl rfl 1 (by decide) (va_Nw.use rfl (hN _ lt_nw3)) (fun _ h9 => h9) rfl dX7_leaf_70 ?_
          refine lv_iload_n hx hb dX7_leaf_73 rfl (lv_at hl 1 rfl) ?_
          have hPc := hP.sub (ws' := lt_N2 yI (B0_ 4) (B0_ 5) 30 (a0 1)) [5, 6] rfl
          refine lt_cR (va_runV (As := [.int p0]) (rest := []) ⟨hx, hb, hml, hown, hts⟩ (c_X3_at l D yI yC yO (B0_ 4) (B0_ 5) 30 (a0 1) p0 (by decide)) (cwV 1 hts gX7_leaf_X3_at rfl rfl rfl (by decide +kernel) ⟨Nat.le_of_ble_eq_true rfl, Nat.le_of_ble_eq_true rfl⟩) (lt_pV hK0 hPc (va_recv hK hPc (ci := 3) (q0 := 0) rfl rfl)) rfl rfl hl.1 rfl (lv_room (Nat.le_of_ble_eq_true rfl)) dX7_leaf_74 ⟨Nat.zero_le _, Nat.zero_le _⟩) (fun r_74 e_r_74 => ?_)
          exact W.iret (v := r_74) hx hb hret (fun t ht hW => ⟨r_74, rfl, (by subst e_r_74; exact (Eq.symm (Eq.trans (if_neg c_1) (Eq.trans (if_pos c_15) (Eq.trans (if_neg h_21_0) (Eq.trans (if_pos h_21_1) rfl)))))), ht⟩) (fun _ h => absurd h List.not_mem_nil) dX7_leaf_77
        · rcases Decidable.em (p1 = 2) with h_21_2 | h_21_2
          · refine lv_tableIn (off := 57) (tgt := 78) hx hb dX7_leaf_21 (by rw [h_21_2]; decide) (by rw [h_21_2]; decide) (by rw [h_21_2]; rfl) (by decide) ?_
            refine lv_iload_n hx hb dX7_leaf_78 rfl (lv_at hl 1 rfl) ?_
            refine lv_aload_n hx hb dX7_leaf_79 rfl (lv_at hl 0 rfl) ?_
            refine va_get (D := D) (ci := 7) (v := .ref (B0_ 0)) (C := RX7) (T := TX7) (N := 7) hx hb hts iw_X7_leaf_7 hown hK hP 0 rfl rfl 0 (by decide) (hts (.fieldLink RX7 10 "LeafTurner" "now" "LLeafTurner$State;") (by decide +kernel)) (fun _ h9 => h9) rfl dX7_leaf_80 ?_
            refine va_getN (D := D) (ci := 6) (v := .int (i0 1)) (C := RX6) (T := TX6) (N := 10) hx hb hts iw_X7_leaf_6 hown hK hP 1 rfl rfl 3 (by decide) (va_Nw.use rfl (hN _ lt_nw24)) (fun _ h9 => h9) rfl dX7_leaf_83 ?_
            refine lv_icmp_ge (tgt := 93) hx hb dX7_leaf_86 (by decide) (fun c_86 => ?_) (fun c_86 => ?_)
            · refine lv_iconst (v := 0) hx hb dX7_leaf_93 (by decide) ?_
              have hPc := hP.sub (ws' := ([] : va_W)) [] rfl
              refine lt_cR (va_runS (As := [.int 0]) (rest := []) ⟨hx, hb, hml, hown, hts⟩ (c_X7_asNumber l D yI yC yO 0 ) (va_cwS 1 hts gX7_leaf_X7_asNumber rfl rfl rfl (by decide +kernel) ⟨Nat.le_of_ble_eq_true rfl, Nat.le_of_ble_eq_true rfl⟩) (lt_pS hK0 hPc) rfl rfl hl.1 rfl (lv_room (Nat.le_of_ble_eq_true rfl)) dX7_leaf_94 ⟨Nat.zero_le _, Nat.zero_le _⟩) (fun r_94 e_r_94 => ?_)
              exact W.iret (v := r_94) hx hb hret (fun t ht hW => ⟨r_94, rfl, (by subst e_r_94; exact (Eq.symm (Eq.trans (if_neg c_1) (Eq.trans (if_pos c_15) (Eq.trans (if_neg h_21_0) (Eq.trans (if_neg h_21_1) (Eq.trans (if_pos h_21_2) (Eq.trans (if_pos c_86) rfl)))))))), ht⟩) (fun _ h => absurd h List.not_mem_nil) dX7_leaf_97
            · refine lv_iconst (v := 1) hx hb dX7_leaf_89 (by decide) ?_
              refine lv_goto (tgt := 94) hx hb dX7_leaf_90 (by decide) ?_
              have hPc := hP.sub (ws' := ([] : va_W)) [] rfl
              refine lt_cR (va_runS (As := [.int 1]) (rest := []) ⟨hx, hb, hml, hown, hts⟩ (c_X7_asNumber l D yI yC yO 1 ) (va_cwS 1 hts gX7_leaf_X7_asNumber rfl rfl rfl (by decide +kernel) ⟨Nat.le_of_ble_eq_true rfl, Nat.le_of_ble_eq_true rfl⟩) (lt_pS hK0 hPc) rfl rfl hl.1 rfl (lv_room (Nat.le_of_ble_eq_true rfl)) dX7_leaf_94 ⟨Nat.zero_le _, Nat.zero_le _⟩) (fun r_94 e_r_94 => ?_)
              exact W.iret (v := r_94) hx hb hret (fun t ht hW => ⟨r_94, rfl, (by subst e_r_94; exact (Eq.symm (Eq.trans (if_neg c_1) (Eq.trans (if_pos c_15) (Eq.trans (if_neg h_21_0) (Eq.trans (if_neg h_21_1) (Eq.trans (if_pos h_21_2) (Eq.trans (if_neg c_86) rfl)))))))), ht⟩) (fun _ h => absurd h List.not_mem_nil) dX7_leaf_97
          · refine lv_tableOut (tgt := 98) hx hb dX7_leaf_21 (lt_sw0_2 h_21_0 h_21_1 h_21_2) (by decide) ?_
            refine lv_bipush (v := (-2)) hx hb dX7_leaf_98 (by decide) ?_
            exact W.iret (v := (-2)) hx hb hret (fun t ht hW => ⟨(-2), rfl, (Eq.symm (Eq.trans (if_neg c_1) (Eq.trans (if_pos c_15) (Eq.trans (if_neg h_21_0) (Eq.trans (if_neg h_21_1) (Eq.trans (if_neg h_21_2) rfl)))))), ht⟩) (fun _ h => absurd h List.not_mem_nil) dX7_leaf_100
    · refine lv_iconst (v := (-1)) hx hb dX7_leaf_18 (by decide) ?_
      exact W.iret (v := (-1)) hx hb hret (fun t ht hW => ⟨(-1), rfl, (Eq.symm (Eq.trans (if_neg c_1) (Eq.trans (if_neg c_15) rfl))), ht⟩) (fun _ h => absurd h List.not_mem_nil) dX7_leaf_19

def X7_open (hs_ : Int32) (i0 : Nat → Int32) (a0 : Nat → Nat → Int32) (p0 : Int32) : Int32 :=
  if p0 = 0 then
    let r_8 := X6_openOnLeft i0 a0
    r_8
  else
    if p0 = 1 then
      let r_21 := X6_openOnRight i0 a0
      r_21
    else
      (-2)
theorem iw_X7_open_7 : ∀ w ∈ wsX70, w ∈ wsX7_open := by decide +kernel
set_option maxHeartbeats 4000000 in
set_option maxRecDepth 100000 in
theorem c_X7_open (l : Launch) (D : va_G) (yI yC yO : ClassId) (h : Nat) (B0_ : Nat → Nat) (B1_ : Nat → Nat) (B2_ : Nat → Nat) (G : Nat → Nat) (Tx : Nat → Nat) (Pg : Nat → Nat) (hs_ : Int32) (i0 : Nat → Int32) (a0 : Nat → Nat → Int32) (p0 : Int32) : Met l yX7_open wsX7_open ({ frames := 2, cells := 0, slots := 0, locals := 60 }) (va_Pc [.ref h, .int p0] (lt_R D yI yC yO (lt_Lt h B0_ B1_ B2_ G Tx Pg hs_ ++ lt_St yI B0_ i0 a0))) (lt_Si (X7_open hs_ i0 a0 p0)) 0 0 (fun _ => False) := by
  refine Met.ofW (cc := cX7_open) (maxL := 2) (ret := (some .int)) (by decide) rfl ?_
  intro p e s m args below meth c s₁ B0 hml hv
  obtain ⟨rfl, hP, hK0⟩ := hv
  have hx := B0.exec
  have hb := B0.bytes
  have hret := B0.returns
  have hts := atoms_spec (ws := wsX7_open) B0.pre
  have hown : s.vm.findClass RX7 = some m.cls := findClass_of_methodNamed B0.named
  have hlocks := B0.notSynchronized
  have hK := hK0.1
  have hN := hK0.2
  have hP : va_P D vwCl (lt_Lt h B0_ B1_ B2_ G Tx Pg hs_ ++ lt_St yI B0_ i0 a0) s.heap := hP
  have hl := lv_entry ([.ref h, .int p0]) (n := 2) (Nat.le_of_ble_eq_true rfl)
  rw [lg_entry_eq]
  generalize (lg_sl ([.ref h, .int p0]) ++ List.replicate (2 - (lg_sl ([.ref h, .int p0])).length) Slot.unset).toArray = ls at hl ⊢
  have hl : lv_has ls 2 [(0, .ref h), (1, .int p0)] := hl
  refine lv_iload_n hx hb dX7_open_0 rfl (lv_at hl 1 rfl) ?_
  refine lv_if_ne (tgt := 12) hx hb dX7_open_1 (by decide) (fun c_1 => ?_) (fun c_1 => ?_)
  · refine lv_iload_n hx hb dX7_open_12 rfl (lv_at hl 1 rfl) ?_
    refine lv_iconst (v := 1) hx hb dX7_open_13 (by decide) ?_
    refine lv_icmp_ne (tgt := 25) hx hb dX7_open_14 (by decide) (fun c_14 => ?_) (fun c_14 => ?_)
    · refine lv_bipush (v := (-2)) hx hb dX7_open_25 (by decide) ?_
      exact W.iret (v := (-2)) hx hb hret (fun t ht hW => ⟨(-2), rfl, (Eq.symm (Eq.trans (if_neg c_1) (Eq.trans (if_neg c_14) rfl))), ht⟩) (fun _ h => absurd h List.not_mem_nil) dX7_open_27
    · refine lv_aload_n hx hb dX7_open_17 rfl (lv_at hl 0 rfl) ?_
      refine va_get (D := D) (ci := 7) (v := .ref (B0_ 0)) (C := RX7) (T := TX7) (N := 7) hx hb hts iw_X7_open_7 hown hK hP 0 rfl rfl 0 (by decide) (hts (.fieldLink RX7 10 "LeafTurner" "now" "LLeafTurner$State;") (by decide +kernel)) (fun _ h9 => h9) rfl dX7_open_18 ?_
      have hPc := hP.sub (ws' := lt_St yI B0_ i0 a0) [1, 2, 3, 4, 5, 6, 7, 8, 9, 10, 11, 12, 13, 14, 15, 16, 17, 18, 19] rfl
      refine lt_cR (va_runV (As := []) (rest := []) ⟨hx, hb, hml, hown, hts⟩ (c_X6_openOnRight l D yI yC yO B0_ i0 a0 ) (cwV 0 hts gX7_open_X6_openOnRight rfl rfl rfl (by decide +kernel) ⟨Nat.le_of_ble_eq_true rfl, Nat.le_of_ble_eq_true rfl⟩) (lt_pV hK0 hPc (va_recv hK hPc (ci := 6) (q0 := 0) rfl rfl)) rfl rfl hl.1 rfl (lv_room (Nat.le_of_ble_eq_true rfl)) dX7_open_21 ⟨Nat.zero_le _, Nat.zero_le _⟩) (fun r_21 e_r_21 => ?_)
      exact W.iret (v := r_21) hx hb hret (fun t ht hW => ⟨r_21, rfl, (by subst e_r_21; exact (Eq.symm (Eq.trans (if_neg c_1) (Eq.trans (if_pos c_14) rfl)))), ht⟩) (fun _ h => absurd h List.not_mem_nil) dX7_open_24
  · refine lv_aload_n hx hb dX7_open_4 rfl (lv_at hl 0 rfl) ?_
    refine va_get (D := D) (ci := 7) (v := .ref (B0_ 0)) (C := RX7) (T := TX7) (N := 7) hx hb hts iw_X7_open_7 hown hK hP 0 rfl rfl 0 (by decide) (hts (.fieldLink RX7 10 "LeafTurner" "now" "LLeafTurner$State;") (by decide +kernel)) (fun _ h9 => h9) rfl dX7_open_5 ?_
    have hPc := hP.sub (ws' := lt_St yI B0_ i0 a0) [1, 2, 3, 4, 5, 6, 7, 8, 9, 10, 11, 12, 13, 14, 15, 16, 17, 18, 19] rfl
    refine lt_cR (va_runV (As := []) (rest := []) ⟨hx, hb, hml, hown, hts⟩ (c_X6_openOnLeft l D yI yC yO B0_ i0 a0 ) (cwV 0 hts gX7_open_X6_openOnLeft rfl rfl rfl (by decide +kernel) ⟨Nat.le_of_ble_eq_true rfl, Nat.le_of_ble_eq_true rfl⟩) (lt_pV hK0 hPc (va_recv hK hPc (ci := 6) (q0 := 0) rfl rfl)) rfl rfl hl.1 rfl (lv_room (Nat.le_of_ble_eq_true rfl)) dX7_open_8 ⟨Nat.zero_le _, Nat.zero_le _⟩) (fun r_8 e_r_8 => ?_)
    exact W.iret (v := r_8) hx hb hret (fun t ht hW => ⟨r_8, rfl, (by subst e_r_8; exact (Eq.symm (Eq.trans (if_pos c_1) rfl))), ht⟩) (fun _ h => absurd h List.not_mem_nil) dX7_open_11

def X7_would (hs_ : Int32) (i0 : Nat → Int32) (a0 : Nat → Nat → Int32) (p0 : Int32) : Int32 :=
  let r_1 := X7_isSuction p0
  if r_1 = 0 then
    (-2)
  else
    let r_14 := X6_leavesOnRight i0 a0
    if r_14 = 0 then
      (-4)
    else
      let r_28 := X6_liftedBy i0 a0 p0
      r_28
theorem iw_X7_would_7 : ∀ w ∈ wsX70, w ∈ wsX7_would := by decide +kernel
set_option maxHeartbeats 4000000 in
set_option maxRecDepth 100000 in
theorem c_X7_would (l : Launch) (D : va_G) (yI yC yO : ClassId) (h : Nat) (B0_ : Nat → Nat) (B1_ : Nat → Nat) (B2_ : Nat → Nat) (G : Nat → Nat) (Tx : Nat → Nat) (Pg : Nat → Nat) (hs_ : Int32) (i0 : Nat → Int32) (a0 : Nat → Nat → Int32) (p0 : Int32) : Met l yX7_would wsX7_would ({ frames := 3, cells := 0, slots := 0, locals := 90 }) (va_Pc [.ref h, .int p0] (lt_R D yI yC yO (lt_Lt h B0_ B1_ B2_ G Tx Pg hs_ ++ lt_St yI B0_ i0 a0))) (lt_Si (X7_would hs_ i0 a0 p0)) 0 0 (fun _ => False) := by
  refine Met.ofW (cc := cX7_would) (maxL := 2) (ret := (some .int)) (by decide) rfl ?_
  intro p e s m args below meth c s₁ B0 hml hv
  obtain ⟨rfl, hP, hK0⟩ := hv
  have hx := B0.exec
  have hb := B0.bytes
  have hret := B0.returns
  have hts := atoms_spec (ws := wsX7_would) B0.pre
  have hown : s.vm.findClass RX7 = some m.cls := findClass_of_methodNamed B0.named
  have hlocks := B0.notSynchronized
  have hK := hK0.1
  have hN := hK0.2
  have hP : va_P D vwCl (lt_Lt h B0_ B1_ B2_ G Tx Pg hs_ ++ lt_St yI B0_ i0 a0) s.heap := hP
  have hl := lv_entry ([.ref h, .int p0]) (n := 2) (Nat.le_of_ble_eq_true rfl)
  rw [lg_entry_eq]
  generalize (lg_sl ([.ref h, .int p0]) ++ List.replicate (2 - (lg_sl ([.ref h, .int p0])).length) Slot.unset).toArray = ls at hl ⊢
  have hl : lv_has ls 2 [(0, .ref h), (1, .int p0)] := hl
  refine lv_iload_n hx hb dX7_would_0 rfl (lv_at hl 1 rfl) ?_
  have hPc := hP.sub (ws' := ([] : va_W)) [] rfl
  refine lt_cR (va_runS (As := [.int p0]) (rest := []) ⟨hx, hb, hml, hown, hts⟩ (c_X7_isSuction l D yI yC yO p0 ) (va_cwS 1 hts gX7_would_X7_isSuction rfl rfl rfl (by decide +kernel) ⟨Nat.le_of_ble_eq_true rfl, Nat.le_of_ble_eq_true rfl⟩) (lt_pS hK0 hPc) rfl rfl hl.1 rfl (lv_room (Nat.le_of_ble_eq_true rfl)) dX7_would_1 ⟨Nat.zero_le _, Nat.zero_le _⟩) (fun r_1 e_r_1 => ?_)
  refine lv_if_ne (tgt := 10) hx hb dX7_would_4 (by decide) (fun c_4 => ?_) (fun c_4 => ?_)
  · refine lv_aload_n hx hb dX7_would_10 rfl (lv_at hl 0 rfl) ?_
    refine va_get (D := D) (ci := 7) (v := .ref (B0_ 0)) (C := RX7) (T := TX7) (N := 7) hx hb hts iw_X7_would_7 hown hK hP 0 rfl rfl 0 (by decide) (hts (.fieldLink RX7 10 "LeafTurner" "now" "LLeafTurner$State;") (by decide +kernel)) (fun _ h9 => h9) rfl dX7_would_11 ?_
    have hPc := hP.sub (ws' := lt_St yI B0_ i0 a0) [1, 2, 3, 4, 5, 6, 7, 8, 9, 10, 11, 12, 13, 14, 15, 16, 17, 18, 19] rfl
    refine lt_cR (va_runV (As := []) (rest := []) ⟨hx, hb, hml, hown, hts⟩ (c_X6_leavesOnRight l D yI yC yO B0_ i0 a0 ) (cwV 0 hts gX7_would_X6_leavesOnRight rfl rfl rfl (by decide +kernel) ⟨Nat.le_of_ble_eq_true rfl, Nat.le_of_ble_eq_true rfl⟩) (lt_pV hK0 hPc (va_recv hK hPc (ci := 6) (q0 := 0) rfl rfl)) rfl rfl hl.1 rfl (lv_room (Nat.le_of_ble_eq_true rfl)) dX7_would_14 ⟨Nat.zero_le _, Nat.zero_le _⟩) (fun r_14 e_r_14 => ?_)
    refine lv_if_ne (tgt := 23) hx hb dX7_would_17 (by decide) (fun c_17 => ?_) (fun c_17 => ?_)
    · refine lv_aload_n hx hb dX7_would_23 rfl (lv_at hl 0 rfl) ?_
      refine va_get (D := D) (ci := 7) (v := .ref (B0_ 0)) (C := RX7) (T := TX7) (N := 7) hx hb hts iw_X7_would_7 hown hK hP 0 rfl rfl 0 (by decide) (hts (.fieldLink RX7 10 "LeafTurner" "now" "LLeafTurner$State;") (by decide +kernel)) (fun _ h9 => h9) rfl dX7_would_24 ?_
      refine lv_iload_n hx hb dX7_would_27 rfl (lv_at hl 1 rfl) ?_
      have hPc := hP.sub (ws' := lt_St yI B0_ i0 a0) [1, 2, 3, 4, 5, 6, 7, 8, 9, 10, 11, 12, 13, 14, 15, 16, 17, 18, 19] rfl
      refine lt_cR (va_runV (As := [.int p0]) (rest := []) ⟨hx, hb, hml, hown, hts⟩ (c_X6_liftedBy l D yI yC yO B0_ i0 a0 p0 ) (cwV 1 hts gX7_would_X6_liftedBy rfl rfl rfl (by decide +kernel) ⟨Nat.le_of_ble_eq_true rfl, Nat.le_of_ble_eq_true rfl⟩) (lt_pV hK0 hPc (va_recv hK hPc (ci := 6) (q0 := 0) rfl rfl)) rfl rfl hl.1 rfl (lv_room (Nat.le_of_ble_eq_true rfl)) dX7_would_28 ⟨Nat.zero_le _, Nat.zero_le _⟩) (fun r_28 e_r_28 => ?_)
      exact W.iret (v := r_28) hx hb hret (fun t ht hW => ⟨r_28, rfl, (by subst e_r_28 e_r_14 e_r_1; exact (Eq.symm (Eq.trans (if_neg c_4) (Eq.trans (if_neg c_17) rfl)))), ht⟩) (fun _ h => absurd h List.not_mem_nil) dX7_would_31
    · refine lv_bipush (v := (-4)) hx hb dX7_would_20 (by decide) ?_
      exact W.iret (v := (-4)) hx hb hret (fun t ht hW => ⟨(-4), rfl, (by subst e_r_14 e_r_1; exact (Eq.symm (Eq.trans (if_neg c_4) (Eq.trans (if_pos c_17) rfl)))), ht⟩) (fun _ h => absurd h List.not_mem_nil) dX7_would_22
  · refine lv_bipush (v := (-2)) hx hb dX7_would_7 (by decide) ?_
    exact W.iret (v := (-2)) hx hb hret (fun t ht hW => ⟨(-2), rfl, (by subst e_r_1; exact (Eq.symm (Eq.trans (if_pos c_4) rfl))), ht⟩) (fun _ h => absurd h List.not_mem_nil) dX7_would_9

def X7_best_L15 (hs_ : Int32) (i0 : Nat → Int32) (a0 : Nat → Nat → Int32) : Nat → (Int32) → Int32
  | 0, _ => 0
  | fu + 1, v1 =>
    if 20 < v1 then
      (-5)
    else
      let r_26 := X6_liftedBy i0 a0 v1
      if r_26 = 1 then
        v1
      else
        X7_best_L15 hs_ i0 a0 fu (v1 + 1)
def X7_best (hs_ : Int32) (i0 : Nat → Int32) (a0 : Nat → Nat → Int32) : Int32 :=
  let r_4 := X6_leavesOnRight i0 a0
  if r_4 = 0 then
    (-4)
  else
    X7_best_L15 hs_ i0 a0 (((21 : Int32).toInt - (1 : Int32).toInt).toNat + 1) 1
theorem iw_X7_best_7 : ∀ w ∈ wsX70, w ∈ wsX7_best := by decide +kernel
set_option maxHeartbeats 4000000 in
set_option maxRecDepth 100000 in
theorem c_X7_best (l : Launch) (D : va_G) (yI yC yO : ClassId) (h : Nat) (B0_ : Nat → Nat) (B1_ : Nat → Nat) (B2_ : Nat → Nat) (G : Nat → Nat) (Tx : Nat → Nat) (Pg : Nat → Nat) (hs_ : Int32) (i0 : Nat → Int32) (a0 : Nat → Nat → Int32) : Met l yX7_best wsX7_best ({ frames := 3, cells := 0, slots := 0, locals := 90 }) (va_Pc [.ref h] (lt_R D yI yC yO (lt_Lt h B0_ B1_ B2_ G Tx Pg hs_ ++ lt_St yI B0_ i0 a0))) (lt_Si (X7_best hs_ i0 a0)) 0 0 (fun _ => False) := by
  refine Met.ofW (cc := cX7_best) (maxL := 2) (ret := (some .int)) (by decide) rfl ?_
  intro p e s m args below meth c s₁ B0 hml hv
  obtain ⟨rfl, hP, hK0⟩ := hv
  have hx := B0.exec
  have hb := B0.bytes
  have hret := B0.returns
  have hts := atoms_spec (ws := wsX7_best) B0.pre
  have hown : s.vm.findClass RX7 = some m.cls := findClass_of_methodNamed B0.named
  have hlocks := B0.notSynchronized
  have hK := hK0.1
  have hN := hK0.2
  have hP : va_P D vwCl (lt_Lt h B0_ B1_ B2_ G Tx Pg hs_ ++ lt_St yI B0_ i0 a0) s.heap := hP
  have hl := lv_entry ([.ref h]) (n := 2) (Nat.le_of_ble_eq_true rfl)
  rw [lg_entry_eq]
  generalize (lg_sl ([.ref h]) ++ List.replicate (2 - (lg_sl ([.ref h])).length) Slot.unset).toArray = ls at hl ⊢
  have hl : lv_has ls 2 [(0, .ref h)] := hl
  refine lv_aload_n hx hb dX7_best_0 rfl (lv_at hl 0 rfl) ?_
  refine va_get (D := D) (ci := 7) (v := .ref (B0_ 0)) (C := RX7) (T := TX7) (N := 7) hx hb hts iw_X7_best_7 hown hK hP 0 rfl rfl 0 (by decide) (hts (.fieldLink RX7 10 "LeafTurner" "now" "LLeafTurner$State;") (by decide +kernel)) (fun _ h9 => h9) rfl dX7_best_1 ?_
  have hPc := hP.sub (ws' := lt_St yI B0_ i0 a0) [1, 2, 3, 4, 5, 6, 7, 8, 9, 10, 11, 12, 13, 14, 15, 16, 17, 18, 19] rfl
  refine lt_cR (va_runV (As := []) (rest := []) ⟨hx, hb, hml, hown, hts⟩ (c_X6_leavesOnRight l D yI yC yO B0_ i0 a0 ) (cwV 0 hts gX7_best_X6_leavesOnRight rfl rfl rfl (by decide +kernel) ⟨Nat.le_of_ble_eq_true rfl, Nat.le_of_ble_eq_true rfl⟩) (lt_pV hK0 hPc (va_recv hK hPc (ci := 6) (q0 := 0) rfl rfl)) rfl rfl hl.1 rfl (lv_room (Nat.le_of_ble_eq_true rfl)) dX7_best_4 ⟨Nat.zero_le _, Nat.zero_le _⟩) (fun r_4 e_r_4 => ?_)
  refine lv_if_ne (tgt := 13) hx hb dX7_best_7 (by decide) (fun c_7 => ?_) (fun c_7 => ?_)
  · refine lv_iconst (v := 1) hx hb dX7_best_13 (by decide) ?_
    refine lv_istore_n (lv' := [(1, .int 1), (0, .ref h)]) hx hb dX7_best_14 rfl hl (by decide) rfl (fun ls hl => ?_)
    refine lt_loop (σ := (Int32)) (fun fu (x : (Int32)) H locs ls => ∃ (v1 : Int32), x = (v1) ∧ lt_fu fu (21) (v1) ∧ X7_best_L15 hs_ i0 a0 fu v1 = X7_best hs_ i0 a0 ∧ H = s.heap ∧ locs = [] ∧ lv_has ls 2 [(1, .int v1), (0, .ref h)]) ?_ ?_ (((21 : Int32).toInt - (1 : Int32).toInt).toNat + 1) (1) _ _ _ ⟨1, rfl, lt_fuI _ _, (by subst e_r_4; exact (Eq.symm (Eq.trans (if_neg c_7) rfl))), rfl, rfl, (lv_sub hl [0, 1] rfl)⟩
    · rintro x H locs ls ⟨_, -, hF, -⟩
      exact lt_fu0 hF
    · rintro fu ih v1 H locs ls ⟨_, rfl, hF, hT, rfl, rfl, hl⟩
      refine lv_iload_n hx hb dX7_best_15 rfl (lv_at hl 0 rfl) ?_
      refine lv_bipush (v := 20) hx hb dX7_best_16 (by decide) ?_
      refine lv_icmp_gt (tgt := 41) hx hb dX7_best_18 (by decide) (fun c_18 => ?_) (fun c_18 => ?_)
      · refine lv_bipush (v := (-5)) hx hb dX7_best_41 (by decide) ?_
        exact W.iret (v := (-5)) hx hb hret (fun t ht hW => ⟨(-5), rfl, (Eq.trans (Eq.symm (Eq.trans (if_pos c_18) rfl)) hT), ht⟩) (fun _ h => absurd h List.not_mem_nil) dX7_best_43
      · refine lv_aload_n hx hb dX7_best_21 rfl (lv_at hl 1 rfl) ?_
        refine va_get (D := D) (ci := 7) (v := .ref (B0_ 0)) (C := RX7) (T := TX7) (N := 7) hx hb hts iw_X7_best_7 hown hK hP 0 rfl rfl 0 (by decide) (hts (.fieldLink RX7 10 "LeafTurner" "now" "LLeafTurner$State;") (by decide +kernel)) (fun _ h9 => h9) rfl dX7_best_22 ?_
        refine lv_iload_n hx hb dX7_best_25 rfl (lv_at hl 0 rfl) ?_
        have hPc := hP.sub (ws' := lt_St yI B0_ i0 a0) [1, 2, 3, 4, 5, 6, 7, 8, 9, 10, 11, 12, 13, 14, 15, 16, 17, 18, 19] rfl
        refine lt_cR (va_runV (As := [.int v1]) (rest := []) ⟨hx, hb, hml, hown, hts⟩ (c_X6_liftedBy l D yI yC yO B0_ i0 a0 v1 ) (cwV 1 hts gX7_best_X6_liftedBy rfl rfl rfl (by decide +kernel) ⟨Nat.le_of_ble_eq_true rfl, Nat.le_of_ble_eq_true rfl⟩) (lt_pV hK0 hPc (va_recv hK hPc (ci := 6) (q0 := 0) rfl rfl)) rfl rfl hl.1 rfl (lv_room (Nat.le_of_ble_eq_true rfl)) dX7_best_26 ⟨Nat.zero_le _, Nat.zero_le _⟩) (fun r_26 e_r_26 => ?_)
        refine lv_iconst (v := 1) hx hb dX7_best_29 (by decide) ?_
        refine lv_icmp_ne (tgt := 35) hx hb dX7_best_30 (by decide) (fun c_30 => ?_) (fun c_30 => ?_)
        · refine lv_iinc (v := (v1 + 1)) (lv' := [(1, .int (v1 + 1)), (0, .ref h)]) hx hb dX7_best_35 hl (k := 0) rfl (rfl) (by decide) rfl (fun ls hl => ?_)
          refine lv_goto (tgt := 15) hx hb dX7_best_38 (by decide) ?_
          exact ih ((v1 + 1)) _ _ _ ⟨(v1 + 1), rfl, lt_fuS hF (lt_le20 c_18), (by subst e_r_26; exact (Eq.trans (Eq.symm (Eq.trans (if_neg c_18) (Eq.trans (if_neg c_30) rfl))) hT)), rfl, rfl, lv_sub hl [0, 1] rfl⟩
        · refine lv_iload_n hx hb dX7_best_33 rfl (lv_at hl 0 rfl) ?_
          exact W.iret (v := v1) hx hb hret (fun t ht hW => ⟨v1, rfl, (by subst e_r_26; exact (Eq.trans (Eq.symm (Eq.trans (if_neg c_18) (Eq.trans (if_pos c_30) rfl))) hT)), ht⟩) (fun _ h => absurd h List.not_mem_nil) dX7_best_34
  · refine lv_bipush (v := (-4)) hx hb dX7_best_10 (by decide) ?_
    exact W.iret (v := (-4)) hx hb hret (fun t ht hW => ⟨(-4), rfl, (by subst e_r_4; exact (Eq.symm (Eq.trans (if_pos c_7) rfl))), ht⟩) (fun _ h => absurd h List.not_mem_nil) dX7_best_12

def X7_keep (hs_ : Int32) (i0 : Nat → Int32) (a0 : Nat → Nat → Int32) (i2 : Nat → Int32) (a2 : Nat → Nat → Int32) : Int32 × ((Int32) × (Nat → Int32) × (Nat → Nat → Int32)) :=
  ((i0 2), (1, i0, a0))
theorem iw_X7_keep_7 : ∀ w ∈ wsX70, w ∈ wsX7_keep := by decide +kernel
theorem iw_X7_keep_6 : ∀ w ∈ wsX60, w ∈ wsX7_keep := by decide +kernel
theorem iw_X7_keep_5 : ∀ w ∈ wsX50, w ∈ wsX7_keep := by decide +kernel
set_option maxHeartbeats 4000000 in
set_option maxRecDepth 100000 in
theorem c_X7_keep (l : Launch) (D : va_G) (yI yC yO : ClassId) (h : Nat) (B0_ : Nat → Nat) (B1_ : Nat → Nat) (B2_ : Nat → Nat) (G : Nat → Nat) (Tx : Nat → Nat) (Pg : Nat → Nat) (hs_ : Int32) (i0 : Nat → Int32) (a0 : Nat → Nat → Int32) (i2 : Nat → Int32) (a2 : Nat → Nat → Int32) (sz : Nat) : Met l yX7_keep wsX7_keep ({ frames := 4, cells := 0, slots := 0, locals := 120 }) (va_Pc [.ref h] (lt_M D yI yC yO (lt_Lt h B0_ B1_ B2_ G Tx Pg hs_ ++ (lt_St yI B0_ i0 a0 ++ lt_St yI B2_ i2 a2)) sz)) (lt_Qi D (X7_keep hs_ i0 a0 i2 a2) (fun u => lt_Lt h B0_ B1_ B2_ G Tx Pg u.1 ++ (lt_St yI B0_ i0 a0 ++ lt_St yI B2_ u.2.1 u.2.2)) (va_A (lt_Lt h B0_ B1_ B2_ G Tx Pg hs_ ++ (lt_St yI B0_ i0 a0 ++ lt_St yI B2_ i2 a2)) sz)) 0 0 (va_A (lt_Lt h B0_ B1_ B2_ G Tx Pg hs_ ++ (lt_St yI B0_ i0 a0 ++ lt_St yI B2_ i2 a2)) sz) := by
  refine Met.ofW (cc := cX7_keep) (maxL := 1) (ret := (some .int)) (by decide) rfl ?_
  intro p e s m args below meth c s₁ B0 hml hv
  obtain ⟨rfl, hsz, hP, hK0, hD0⟩ := hv
  have hx := B0.exec
  have hb := B0.bytes
  have hret := B0.returns
  have hts := atoms_spec (ws := wsX7_keep) B0.pre
  have hown : s.vm.findClass RX7 = some m.cls := findClass_of_methodNamed B0.named
  have hlocks := B0.notSynchronized
  have hK := hK0.1
  have hN := hK0.2
  subst hsz
  have hD := hD0.self (sz := s.heap.size)
  generalize hAe : va_A (lt_Lt h B0_ B1_ B2_ G Tx Pg hs_ ++ (lt_St yI B0_ i0 a0 ++ lt_St yI B2_ i2 a2)) s.heap.size = A at hD ⊢
  have hA : ∀ q : Nat, s.heap.size ≤ q → A q := fun q h => by rw [← hAe]; exact Or.inr h
  have hS : va_S A s.heap s.heap [] := va_S.rf
  have hP : va_P D vwCl (lt_Lt h B0_ B1_ B2_ G Tx Pg hs_ ++ (lt_St yI B0_ i0 a0 ++ lt_St yI B2_ i2 a2)) s.heap := hP
  have hD : va_D A (lt_Lt h B0_ B1_ B2_ G Tx Pg hs_ ++ (lt_St yI B0_ i0 a0 ++ lt_St yI B2_ i2 a2)) := hD
  have hl := lv_entry ([.ref h]) (n := 1) (Nat.le_of_ble_eq_true rfl)
  rw [lg_entry_eq]
  generalize (lg_sl ([.ref h]) ++ List.replicate (1 - (lg_sl ([.ref h])).length) Slot.unset).toArray = ls at hl ⊢
  have hl : lv_has ls 1 [(0, .ref h)] := hl
  refine lv_aload_n hx hb dX7_keep_0 rfl (lv_at hl 0 rfl) ?_
  refine va_get (D := D) (ci := 7) (v := .ref (B2_ 0)) (C := RX7) (T := TX7) (N := 7) hx hb hts iw_X7_keep_7 hown hK hP 0 rfl rfl 2 (by decide) (hts (.fieldLink RX7 19 "LeafTurner" "snapshot" "LLeafTurner$State;") (by decide +kernel)) (fun _ h9 => h9) rfl dX7_keep_1 ?_
  refine lv_aload_n hx hb dX7_keep_4 rfl (lv_at hl 0 rfl) ?_
  refine va_get (D := D) (ci := 7) (v := .ref (B0_ 0)) (C := RX7) (T := TX7) (N := 7) hx hb hts iw_X7_keep_7 hown hK hP 0 rfl rfl 0 (by decide) (hts (.fieldLink RX7 10 "LeafTurner" "now" "LLeafTurner$State;") (by decide +kernel)) (fun _ h9 => h9) rfl dX7_keep_5 ?_
  have hPc := hP.sub (ws' := lt_St yI B2_ i2 a2 ++ lt_St yI B0_ i0 a0) [20, 21, 22, 23, 24, 25, 26, 27, 28, 29, 30, 31, 32, 33, 34, 35, 36, 37, 38, 1, 2, 3, 4, 5, 6, 7, 8, 9, 10, 11, 12, 13, 14, 15, 16, 17, 18, 19] rfl
  have hDc := hD.sub (ws' := lt_St yI B2_ i2 a2 ++ lt_St yI B0_ i0 a0) [20, 21, 22, 23, 24, 25, 26, 27, 28, 29, 30, 31, 32, 33, 34, 35, 36, 37, 38, 1, 2, 3, 4, 5, 6, 7, 8, 9, 10, 11, 12, 13, 14, 15, 16, 17, 18, 19] (by decide) rfl
  refine lt_cWv0 (wc := lt_St yI B2_ i2 a2 ++ lt_St yI B0_ i0 a0) (wr := [(h, .inr (7, [.ref (B0_ 0), .ref (B1_ 0), .ref (B2_ 0), .ref (G 0), .ref (Tx 0), .ref (Pg 0), .int hs_]))]) (va_runV (As := [.ref (B0_ 0)]) (rest := []) ⟨hx, hb, hml, hown, hts⟩ (c_X6_copyFrom l D yI yC yO B2_ B0_ i2 a2 i0 a0 _ ) (cwV 1 hts gX7_keep_X6_copyFrom rfl rfl rfl (by decide +kernel) ⟨Nat.le_of_ble_eq_true rfl, Nat.le_of_ble_eq_true rfl⟩) (lt_qV hK0 hPc hDc (va_recv hK hPc (ci := 6) (q0 := 0) rfl rfl)) rfl rfl hl.1 rfl (lv_room (Nat.le_of_ble_eq_true rfl)) dX7_keep_8 ⟨Nat.zero_le _, Nat.zero_le _⟩) hP hD hS hA [20, 21, 22, 23, 24, 25, 26, 27, 28, 29, 30, 31, 32, 33, 34, 35, 36, 37, 38, 1, 2, 3, 4, 5, 6, 7, 8, 9, 10, 11, 12, 13, 14, 15, 16, 17, 18, 19] [0] rfl rfl (by decide) (by decide) (fun H locs hP hD hS => ?_)
  have hP := hP.sub (ws' := lt_Lt h B0_ B1_ B2_ G Tx Pg hs_ ++ (lt_St yI B0_ i0 a0 ++ lt_St yI B2_ i0 a0)) [0, 20, 21, 22, 23, 24, 25, 26, 27, 28, 29, 30, 31, 32, 33, 34, 35, 36, 37, 38, 1, 2, 3, 4, 5, 6, 7, 8, 9, 10, 11, 12, 13, 14, 15, 16, 17, 18, 19] rfl
  have hD := hD.sub (ws' := lt_Lt h B0_ B1_ B2_ G Tx Pg hs_ ++ (lt_St yI B0_ i0 a0 ++ lt_St yI B2_ i0 a0)) [0, 20, 21, 22, 23, 24, 25, 26, 27, 28, 29, 30, 31, 32, 33, 34, 35, 36, 37, 38, 1, 2, 3, 4, 5, 6, 7, 8, 9, 10, 11, 12, 13, 14, 15, 16, 17, 18, 19] (by decide) rfl
  refine lv_aload_n hx hb dX7_keep_11 rfl (lv_at hl 0 rfl) ?_
  refine lv_iconst (v := 1) hx hb dX7_keep_12 (by decide) ?_
  refine va_put (D := D) (ci := 7) (v := .int 1) (ty := .boolean) (C := RX7) (T := TX7) (N := 7) hx hb hts iw_X7_keep_7 tyX7 tyX7_ok nmX7 hown hK hP hD hS 0 rfl rfl 6 (by decide) (hts (.fieldLink RX7 43 "LeafTurner" "hasSnapshot" "Z") (by decide +kernel)) (fun _ h9 => h9) rfl (by decide +kernel) rfl rfl (Nat.le_of_ble_eq_true rfl) dX7_keep_13 (fun H locs hP hD hS => ?_)
  have hP : va_P D vwCl (lt_Lt h B0_ B1_ B2_ G Tx Pg 1 ++ (lt_St yI B0_ i0 a0 ++ lt_St yI B2_ i0 a0)) H := hP
  have hD : va_D A (lt_Lt h B0_ B1_ B2_ G Tx Pg 1 ++ (lt_St yI B0_ i0 a0 ++ lt_St yI B2_ i0 a0)) := hD
  refine lv_aload_n hx hb dX7_keep_16 rfl (lv_at hl 0 rfl) ?_
  refine va_get (D := D) (ci := 7) (v := .ref (B0_ 0)) (C := RX7) (T := TX7) (N := 7) hx hb hts iw_X7_keep_7 hown hK hP 0 rfl rfl 0 (by decide) (hts (.fieldLink RX7 10 "LeafTurner" "now" "LLeafTurner$State;") (by decide +kernel)) (fun _ h9 => h9) rfl dX7_keep_17 ?_
  refine va_getN (D := D) (ci := 6) (v := .ref (B0_ 8)) (C := RX6) (T := TX6) (N := 10) hx hb hts iw_X7_keep_6 hown hK hP 1 rfl rfl 1 (by decide) (va_Nw.use rfl (hN _ lt_nw21)) (fun _ h9 => h9) rfl dX7_keep_20 ?_
  refine va_getN (D := D) (ci := 5) (v := .int (i0 2)) (C := RX5) (T := TX5) (N := 5) hx hb hts iw_X7_keep_5 hown hK hP 9 rfl rfl 4 (by decide) (va_Nw.use rfl (hN _ lt_nw16)) (fun _ h9 => h9) rfl dX7_keep_23 ?_
  exact W.iret (v := (i0 2)) hx hb hret (fun t ht hW => ⟨⟨(i0 2), (1, i0, a0), rfl, (Eq.symm rfl), by rw [ht]; exact hP, hD⟩, hS.F ht⟩) hS.2.2 dX7_keep_26
