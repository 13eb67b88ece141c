def X8_in (p0 : Int32) (p1 : Int32) (p2 : Int32) : Int32 :=
  if p0 < p1 then
    0
  else
    if p2 < p0 then
      0
    else
      1
set_option maxHeartbeats 4000000 in
set_option maxRecDepth 100000 in
theorem c_X8_in (l : Launch) (D : va_G) (yI yC yO : ClassId) (p0 : Int32) (p1 : Int32) (p2 : Int32) : Met l yX8_in wsX8_in ({ frames := 0, cells := 0, slots := 0, locals := 0 }) (va_Pc [.int p0, .int p1, .int p2] (lt_R D yI yC yO (([] : va_W)))) (lt_Si (X8_in p0 p1 p2)) 0 0 (fun _ => False) := by
  refine Met.ofW (cc := cX8_in) (maxL := 3) (ret := (some .boolean)) (by decide) rfl ?_
  intro p e s m args below meth c s₁ B0 hml hv
  obtain ⟨rfl, hP, hK0⟩ := hv
  have hx := B0.exec
  have hb := B0.bytes
  have hret := B0.returns
  have hts := atoms_spec (ws := wsX8_in) B0.pre
  have hown : s.vm.findClass RX8 = some m.cls := findClass_of_methodNamed B0.named
  have hlocks := B0.notSynchronized
  have hK := hK0.1
  have hN := hK0.2
  have hP : va_P D vwCl (([] : va_W)) s.heap := hP
  have hl := lv_entry ([.int p0, .int p1, .int p2]) (n := 3) (Nat.le_of_ble_eq_true rfl)
  rw [lg_entry_eq]
  generalize (lg_sl ([.int p0, .int p1, .int p2]) ++ List.replicate (3 - (lg_sl ([.int p0, .int p1, .int p2])).length) Slot.unset).toArray = ls at hl ⊢
  have hl : lv_has ls 3 [(0, .int p0), (1, .int p1), (2, .int p2)] := hl
  refine lv_iload_n hx hb dX8_in_0 rfl (lv_at hl 0 rfl) ?_
  refine lv_iload_n hx hb dX8_in_1 rfl (lv_at hl 1 rfl) ?_
  refine lv_icmp_lt (tgt := 14) hx hb dX8_in_2 (by decide) (fun c_2 => ?_) (fun c_2 => ?_)
  · refine lv_iconst (v := 0) hx hb dX8_in_14 (by decide) ?_
    exact W.zret (v := 0) hx hb hret lt_z0 (fun t ht hW => ⟨0, rfl, (Eq.symm (Eq.trans (if_pos c_2) rfl)), ht⟩) (fun _ h => absurd h List.not_mem_nil) dX8_in_15
  · refine lv_iload_n hx hb dX8_in_5 rfl (lv_at hl 0 rfl) ?_
    refine lv_iload_n hx hb dX8_in_6 rfl (lv_at hl 2 rfl) ?_
    refine lv_icmp_gt (tgt := 14) hx hb dX8_in_7 (by decide) (fun c_7 => ?_) (fun c_7 => ?_)
    · refine lv_iconst (v := 0) hx hb dX8_in_14 (by decide) ?_
      exact W.zret (v := 0) hx hb hret lt_z0 (fun t ht hW => ⟨0, rfl, (Eq.symm (Eq.trans (if_neg c_2) (Eq.trans (if_pos c_7) rfl))), ht⟩) (fun _ h => absurd h List.not_mem_nil) dX8_in_15
    · refine lv_iconst (v := 1) hx hb dX8_in_10 (by decide) ?_
      refine lv_goto (tgt := 15) hx hb dX8_in_11 (by decide) ?_
      exact W.zret (v := 1) hx hb hret lt_z1 (fun t ht hW => ⟨1, rfl, (Eq.symm (Eq.trans (if_neg c_2) (Eq.trans (if_neg c_7) rfl))), ht⟩) (fun _ h => absurd h List.not_mem_nil) dX8_in_15

theorem lt_in01 {p0 p1 p2 r : Int32} (e : r = X8_in p0 p1 p2) : r = 0 ∨ r = 1 := by
  subst e
  unfold X8_in
  split
  · exact Or.inl rfl
  · split
    · exact Or.inl rfl
    · exact Or.inr rfl
theorem lt_vlt {x b : Int32} {n : Nat} (hb : b.toInt = (n : Int)) (h : vp_in x n) : x < b := by
  have h1 := vp_in_iff.mp h
  exact Int32.lt_iff_toInt_lt.mpr (by omega)

def X8_lays_L3 (n : Nat) (n' : Nat) (f : Nat → Int32) (f' : Nat → Int32) (p1 : Int32) (p3 : Int32) : Nat → (Int32) → (Nat → Int32) → (Nat → Int32)
  | 0, _, _ => (f')
  | fu + 1, v4, f'0 =>
    if 532 ≤ v4 then
      (f'0)
    else
      X8_lays_L3 n n' f f' p1 p3 fu (v4 + 1) (upd f'0 (p3 + v4).toNatClampNeg (f (p1 + v4).toNatClampNeg))
def S_X8_lays_L3 (n : Nat) (n' : Nat) (f : Nat → Int32) (f' : Nat → Int32) (p1 : Int32) (p3 : Int32) : Nat → (Int32) → (Nat → Int32) → Prop
  | 0, _, _ => True
  | fu + 1, v4, f'0 =>
    (532 ≤ v4 →
      True) ∧
    (¬ (532 ≤ v4) →
      (vp_in (p1 + v4) n) ∧
      (vp_in (p3 + v4) n') ∧
      (S_X8_lays_L3 n n' f f' p1 p3 fu (v4 + 1) (upd f'0 (p3 + v4).toNatClampNeg (f (p1 + v4).toNatClampNeg))) ∧
      True)
def X8_lays (n : Nat) (n' : Nat) (f : Nat → Int32) (f' : Nat → Int32) (p1 : Int32) (p3 : Int32) : (Nat → Int32) :=
  X8_lays_L3 n n' f f' p1 p3 (((532 : Int32).toInt - (0 : Int32).toInt).toNat + 1) 0 f'
def S_X8_lays (n : Nat) (n' : Nat) (f : Nat → Int32) (f' : Nat → Int32) (p1 : Int32) (p3 : Int32) : Prop :=
  (S_X8_lays_L3 n n' f f' p1 p3 (((532 : Int32).toInt - (0 : Int32).toInt).toNat + 1) 0 f') ∧
  True
set_option maxHeartbeats 4000000 in
set_option maxRecDepth 100000 in
theorem c_X8_lays (l : Launch) (D : va_G) (yI yC yO : ClassId) (b : Nat) (n : Nat) (b' : Nat) (n' : Nat) (f : Nat → Int32) (f' : Nat → Int32) (p1 : Int32) (p3 : Int32) (sz : Nat) (hs : S_X8_lays n n' f f' p1 p3) : Met l yX8_lays wsX8_lays ({ frames := 0, cells := 0, slots := 0, locals := 0 }) (va_Pc [.ref b, .int p1, .ref b', .int p3] (lt_M D yI yC yO (lt_Ro yI b n f ++ lt_Ro yI b' n' f') sz)) (lt_Qv D (X8_lays n n' f f' p1 p3) (fun u => lt_Ro yI b n f ++ lt_Ro yI b' n' u) (va_A (lt_Ro yI b n f ++ lt_Ro yI b' n' f') sz)) 0 0 (va_A (lt_Ro yI b n f ++ lt_Ro yI b' n' f') sz) := by
  refine Met.ofW (cc := cX8_lays) (maxL := 5) (ret := none) (by decide) rfl ?_
  intro p e s m args below meth c s₁ B0 hml hv
  obtain ⟨rfl, hsz, hP, hK0, hD0⟩ := hv
  have hx := B0.exec
  have hb := B0.bytes
  have hret := B0.returns
  have hts := atoms_spec (ws := wsX8_lays) B0.pre
  have hown : s.vm.findClass RX8 = some m.cls := findClass_of_methodNamed B0.named
  have hlocks := B0.notSynchronized
  have hK := hK0.1
  have hN := hK0.2
  subst hsz
  have hD := hD0.self (sz := s.heap.size)
  generalize hAe : va_A (lt_Ro yI b n f ++ lt_Ro yI b' n' f') s.heap.size = A at hD ⊢
  have hA : ∀ q : Nat, s.heap.size ≤ q → A q := fun q h => by rw [← hAe]; exact Or.inr h
  have hS : va_S A s.heap s.heap [] := va_S.rf
  have hP : va_P D vwCl (lt_Ro yI b n f ++ lt_Ro yI b' n' f') s.heap := hP
  have hD : va_D A (lt_Ro yI b n f ++ lt_Ro yI b' n' f') := hD
  have hl := lv_entry ([.ref b, .int p1, .ref b', .int p3]) (n := 5) (Nat.le_of_ble_eq_true rfl)
  rw [lg_entry_eq]
  generalize (lg_sl ([.ref b, .int p1, .ref b', .int p3]) ++ List.replicate (5 - (lg_sl ([.ref b, .int p1, .ref b', .int p3])).length) Slot.unset).toArray = ls at hl ⊢
  have hl : lv_has ls 5 [(0, .ref b), (1, .int p1), (2, .ref b'), (3, .int p3)] := hl
  refine lv_iconst (v := 0) hx hb dX8_lays_0 (by decide) ?_
  refine lv_istore (lv' := [(4, .int 0), (0, .ref b), (1, .int p1), (2, .ref b'), (3, .int p3)]) hx hb dX8_lays_1 hl (by decide) rfl (fun ls hl => ?_)
  refine lt_loop (σ := (Int32) × (Nat → Int32)) (fun fu (x : (Int32) × (Nat → Int32)) H locs ls => ∃ (v4 : Int32) (f'0 : Nat → Int32), x = (v4, f'0) ∧ lt_fu fu (532) (v4) ∧ X8_lays_L3 n n' f f' p1 p3 fu v4 f'0 = X8_lays n n' f f' p1 p3 ∧ S_X8_lays_L3 n n' f f' p1 p3 fu v4 f'0 ∧ va_P D vwCl (lt_Ro yI b n f ++ lt_Ro yI b' n' f'0) H ∧ va_D A (lt_Ro yI b n f ++ lt_Ro yI b' n' f'0) ∧ va_S A s.heap H locs ∧ lv_has ls 5 [(4, .int v4), (0, .ref b), (1, .int p1), (2, .ref b'), (3, .int p3)]) ?_ ?_ (((532 : Int32).toInt - (0 : Int32).toInt).toNat + 1) (0, f') _ _ _ ⟨0, f', rfl, lt_fuI _ _, (Eq.symm rfl), hs.1, hP, hD, hS, (lv_sub hl [0, 1, 2, 3, 4] rfl)⟩
  · rintro x H locs ls ⟨_, _, -, hF, -⟩
    exact lt_fu0 hF
  · rintro fu ih x H locs ls ⟨v4, f'0, rfl, hF, hT, hs, hP, hD, hS, hl⟩
    refine lv_iload hx hb dX8_lays_3 (lv_at hl 0 rfl) ?_
    refine lv_sipush (v := 532) hx hb dX8_lays_5 (by decide) ?_
    refine lv_icmp_ge (tgt := 29) hx hb dX8_lays_8 (by decide) (fun c_8 => ?_) (fun c_8 => ?_)
    · have hs := hs.1 c_8
      exact W.vret hx hb hret (fun t ht hW => ⟨⟨(f'0), rfl, (Eq.trans (Eq.symm (Eq.trans (if_pos c_8) rfl)) hT), by rw [ht]; exact hP, hD⟩, hS.F ht⟩) hS.2.2 dX8_lays_29
    · have hs := hs.2 c_8
      refine lv_aload_n hx hb dX8_lays_11 rfl (lv_at hl 3 rfl) ?_
      refine lv_iload_n hx hb dX8_lays_12 rfl (lv_at hl 4 rfl) ?_
      refine lv_iload hx hb dX8_lays_13 (lv_at hl 0 rfl) ?_
      refine lv_iadd hx hb dX8_lays_15 ?_
      refine lv_aload_n hx hb dX8_lays_16 rfl (lv_at hl 1 rfl) ?_
      refine lv_iload_n hx hb dX8_lays_17 rfl (lv_at hl 2 rfl) ?_
      refine lv_iload hx hb dX8_lays_18 (lv_at hl 0 rfl) ?_
      refine lv_iadd hx hb dX8_lays_20 ?_
      have ho_21 := hs.1; have hs := hs.2
      refine va_iald hx hb hK hP 0 0 rfl rfl (i := (p1 + v4)) (ho_21) dX8_lays_21 ?_
      have ho_22 := hs.1; have hs := hs.2
      refine va_iast hx hb hK hP hD hS 1 0 rfl rfl (i := (p3 + v4)) (x := (f (p1 + v4).toNatClampNeg)) (ho_22) dX8_lays_22 (fun H locs hP hD hS => ?_)
      have hP : va_P D vwCl (lt_Ro yI b n f ++ lt_Ro yI b' n' (upd f'0 (p3 + v4).toNatClampNeg (f (p1 + v4).toNatClampNeg))) H := hP
      have hD : va_D A (lt_Ro yI b n f ++ lt_Ro yI b' n' (upd f'0 (p3 + v4).toNatClampNeg (f (p1 + v4).toNatClampNeg))) := hD
      refine lv_iinc (v := (v4 + 1)) (lv' := [(4, .int (v4 + 1)), (0, .ref b), (1, .int p1), (2, .ref b'), (3, .int p3)]) hx hb dX8_lays_23 hl (k := 0) rfl (rfl) (by decide) rfl (fun ls hl => ?_)
      refine lv_goto (tgt := 3) hx hb dX8_lays_26 (by decide) ?_
      exact ih ((v4 + 1), (upd f'0 (p3 + v4).toNatClampNeg (f (p1 + v4).toNatClampNeg))) _ _ _ ⟨(v4 + 1), (upd f'0 (p3 + v4).toNatClampNeg (f (p1 + v4).toNatClampNeg)), rfl, lt_fuS hF (lt_nle c_8), (Eq.trans (Eq.symm (Eq.trans (if_neg c_8) rfl)) hT), hs.1, hP, hD, hS, lv_sub hl [0, 1, 2, 3, 4] rfl⟩

def X8_isPage (i : Nat → Int32) (a : Nat → Nat → Int32) (p0 : Int32) : Int32 :=
  let r_12 := X8_in p0 0 ((2 * ((a 0) 0)) - 1)
  r_12
def S_X8_isPage (i : Nat → Int32) (a : Nat → Nat → Int32) (p0 : Int32) : Prop :=
  ∀ r_12, r_12 = X8_in p0 0 ((2 * ((a 0) 0)) - 1) →
  True
theorem iw_X8_isPage_8 : ∀ w ∈ wsX80, w ∈ wsX8_isPage := by decide +kernel
set_option maxHeartbeats 4000000 in
set_option maxRecDepth 100000 in
theorem c_X8_isPage (l : Launch) (D : va_G) (yI yC yO : ClassId) (M : Nat → Nat) (i : Nat → Int32) (a : Nat → Nat → Int32) (p0 : Int32) (hs : S_X8_isPage i a p0) : Met l yX8_isPage wsX8_isPage ({ frames := 1, cells := 0, slots := 0, locals := 30 }) (va_Pc [.ref (M 0), .int p0] (lt_R D yI yC yO (lt_Md yI yC M i a))) (lt_Si (X8_isPage i a p0)) 0 0 (fun _ => False) := by
  refine Met.ofW (cc := cX8_isPage) (maxL := 2) (ret := (some .boolean)) (by decide) rfl ?_
  intro p e s m args below meth c s₁ B0 hml hv
  obtain ⟨rfl, hP, hK0⟩ := hv
  have hx := B0.exec
  have hb := B0.bytes
  have hret := B0.returns
  have hts := atoms_spec (ws := wsX8_isPage) B0.pre
  have hown : s.vm.findClass RX8 = some m.cls := findClass_of_methodNamed B0.named
  have hlocks := B0.notSynchronized
  have hK := hK0.1
  have hN := hK0.2
  have hP : va_P D vwCl (lt_Md yI yC M i a) s.heap := hP
  have hl := lv_entry ([.ref (M 0), .int p0]) (n := 2) (Nat.le_of_ble_eq_true rfl)
  rw [lg_entry_eq]
  generalize (lg_sl ([.ref (M 0), .int p0]) ++ List.replicate (2 - (lg_sl ([.ref (M 0), .int p0])).length) Slot.unset).toArray = ls at hl ⊢
  have hl : lv_has ls 2 [(0, .ref (M 0)), (1, .int p0)] := hl
  refine lv_iload_n hx hb dX8_isPage_0 rfl (lv_at hl 1 rfl) ?_
  refine lv_iconst (v := 0) hx hb dX8_isPage_1 (by decide) ?_
  refine lv_iconst (v := 2) hx hb dX8_isPage_2 (by decide) ?_
  refine lv_aload_n hx hb dX8_isPage_3 rfl (lv_at hl 0 rfl) ?_
  refine va_get (D := D) (ci := 8) (v := .ref (M 1)) (C := RX8) (T := TX8) (N := 13) hx hb hts iw_X8_isPage_8 hown hK hP 0 rfl rfl 0 (by decide) (hts (.fieldLink RX8 7 "LeafTurnerModel" "now" "[I") (by decide +kernel)) (fun _ h9 => h9) rfl dX8_isPage_4 ?_
  refine lv_iconst (v := 0) hx hb dX8_isPage_7 (by decide) ?_
  refine va_iald hx hb hK hP 1 0 rfl rfl (i := 0) (vp_in_iff.mpr (by decide)) dX8_isPage_8 ?_
  refine lt_top (y := ((a 0) 0)) rfl ?_
  refine lv_imul hx hb dX8_isPage_9 ?_
  refine lv_iconst (v := 1) hx hb dX8_isPage_10 (by decide) ?_
  refine lv_isub hx hb dX8_isPage_11 ?_
  have hPc := hP.sub (ws' := ([] : va_W)) [] rfl
  refine lt_cR (va_runS (As := [.int p0, .int 0, .int ((2 * ((a 0) 0)) - 1)]) (rest := []) ⟨hx, hb, hml, hown, hts⟩ (c_X8_in l D yI yC yO p0 0 ((2 * ((a 0) 0)) - 1) ) (va_cwS 3 hts gX8_isPage_X8_in rfl rfl rfl (by decide +kernel) ⟨Nat.le_of_ble_eq_true rfl, Nat.le_of_ble_eq_true rfl⟩) (lt_pS hK0 hPc) rfl rfl hl.1 rfl (lv_room (Nat.le_of_ble_eq_true rfl)) dX8_isPage_12 ⟨Nat.zero_le _, Nat.zero_le _⟩) (fun r_12 e_r_12 => ?_)
  have hs := hs r_12 e_r_12
  exact W.zret (v := r_12) hx hb hret (lt_zn (lt_in01 e_r_12)) (fun t ht hW => ⟨r_12, rfl, (by subst e_r_12; exact (Eq.symm rfl)), ht⟩) (fun _ h => absurd h List.not_mem_nil) dX8_isPage_15

def X8_isPicture (i : Nat → Int32) (a : Nat → Nat → Int32) (p0 : Int32) : Int32 :=
  let r_10 := X8_in p0 0 (((a 0) 2) - 1)
  r_10
def S_X8_isPicture (i : Nat → Int32) (a : Nat → Nat → Int32) (p0 : Int32) : Prop :=
  ∀ r_10, r_10 = X8_in p0 0 (((a 0) 2) - 1) →
  True
theorem iw_X8_isPicture_8 : ∀ w ∈ wsX80, w ∈ wsX8_isPicture := by decide +kernel
set_option maxHeartbeats 4000000 in
set_option maxRecDepth 100000 in
theorem c_X8_isPicture (l : Launch) (D : va_G) (yI yC yO : ClassId) (M : Nat → Nat) (i : Nat → Int32) (a : Nat → Nat → Int32) (p0 : Int32) (hs : S_X8_isPicture i a p0) : Met l yX8_isPicture wsX8_isPicture ({ frames := 1, cells := 0, slots := 0, locals := 30 }) (va_Pc [.ref (M 0), .int p0] (lt_R D yI yC yO (lt_Md yI yC M i a))) (lt_Si (X8_isPicture i a p0)) 0 0 (fun _ => False) := by
  refine Met.ofW (cc := cX8_isPicture) (maxL := 2) (ret := (some .boolean)) (by decide) rfl ?_
  intro p e s m args below meth c s₁ B0 hml hv
  obtain ⟨rfl, hP, hK0⟩ := hv
  have hx := B0.exec
  have hb := B0.bytes
  have hret := B0.returns
  have hts := atoms_spec (ws := wsX8_isPicture) B0.pre
  have hown : s.vm.findClass RX8 = some m.cls := findClass_of_methodNamed B0.named
  have hlocks := B0.notSynchronized
  have hK := hK0.1
  have hN := hK0.2
  have hP : va_P D vwCl (lt_Md yI yC M i a) s.heap := hP
  have hl := lv_entry ([.ref (M 0), .int p0]) (n := 2) (Nat.le_of_ble_eq_true rfl)
  rw [lg_entry_eq]
  generalize (lg_sl ([.ref (M 0), .int p0]) ++ List.replicate (2 - (lg_sl ([.ref (M 0), .int p0])).length) Slot.unset).toArray = ls at hl ⊢
  have hl : lv_has ls 2 [(0, .ref (M 0)), (1, .int p0)] := hl
  refine lv_iload_n hx hb dX8_isPicture_0 rfl (lv_at hl 1 rfl) ?_
  refine lv_iconst (v := 0) hx hb dX8_isPicture_1 (by decide) ?_
  refine lv_aload_n hx hb dX8_isPicture_2 rfl (lv_at hl 0 rfl) ?_
  refine va_get (D := D) (ci := 8) (v := .ref (M 1)) (C := RX8) (T := TX8) (N := 13) hx hb hts iw_X8_isPicture_8 hown hK hP 0 rfl rfl 0 (by decide) (hts (.fieldLink RX8 7 "LeafTurnerModel" "now" "[I") (by decide +kernel)) (fun _ h9 => h9) rfl dX8_isPicture_3 ?_
  refine lv_iconst (v := 2) hx hb dX8_isPicture_6 (by decide) ?_
  refine va_iald hx hb hK hP 1 0 rfl rfl (i := 2) (vp_in_iff.mpr (by decide)) dX8_isPicture_7 ?_
  refine lt_top (y := ((a 0) 2)) rfl ?_
  refine lv_iconst (v := 1) hx hb dX8_isPicture_8 (by decide) ?_
  refine lv_isub hx hb dX8_isPicture_9 ?_
  have hPc := hP.sub (ws' := ([] : va_W)) [] rfl
  refine lt_cR (va_runS (As := [.int p0, .int 0, .int (((a 0) 2) - 1)]) (rest := []) ⟨hx, hb, hml, hown, hts⟩ (c_X8_in l D yI yC yO p0 0 (((a 0) 2) - 1) ) (va_cwS 3 hts gX8_isPicture_X8_in rfl rfl rfl (by decide +kernel) ⟨Nat.le_of_ble_eq_true rfl, Nat.le_of_ble_eq_true rfl⟩) (lt_pS hK0 hPc) rfl rfl hl.1 rfl (lv_room (Nat.le_of_ble_eq_true rfl)) dX8_isPicture_10 ⟨Nat.zero_le _, Nat.zero_le _⟩) (fun r_10 e_r_10 => ?_)
  have hs := hs r_10 e_r_10
  exact W.zret (v := r_10) hx hb hret (lt_zn (lt_in01 e_r_10)) (fun t ht hW => ⟨r_10, rfl, (by subst e_r_10; exact (Eq.symm rfl)), ht⟩) (fun _ h => absurd h List.not_mem_nil) dX8_isPicture_13

def X8_wouldTurn_L21 (f : Nat → Int32) (p1 : Int32) : Nat → (Int32) → (Int32) → Int32
  | 0, _, _ => 0
  | fu + 1, v3, v4 =>
    if (f 0) ≤ ((f 1) + v4) then
      v4
    else
      if p1 < (v3 + (f ((12 + (f 1)) + v4).toNatClampNeg)) then
        v4
      else
        if (f (((42 + (f 1)) + v4) - 1).toNatClampNeg) ≤ (p1 - v3) then
          v4
        else
          let v_74 := v3 + (f ((12 + (f 1)) + v4).toNatClampNeg)
          X8_wouldTurn_L21 f p1 fu v_74 (v4 + 1)
def S_X8_wouldTurn_L21 (f : Nat → Int32) (p1 : Int32) : Nat → (Int32) → (Int32) → Prop
  | 0, _, _ => True
  | fu + 1, v3, v4 =>
    ((f 0) ≤ ((f 1) + v4) →
      True) ∧
    (¬ ((f 0) ≤ ((f 1) + v4)) →
      (vp_in ((12 + (f 1)) + v4) 532) ∧
      (p1 < (v3 + (f ((12 + (f 1)) + v4).toNatClampNeg)) →
        True) ∧
      (¬ (p1 < (v3 + (f ((12 + (f 1)) + v4).toNatClampNeg))) →
        (vp_in (((42 + (f 1)) + v4) - 1) 532) ∧
        ((f (((42 + (f 1)) + v4) - 1).toNatClampNeg) ≤ (p1 - v3) →
          True) ∧
        (¬ ((f (((42 + (f 1)) + v4) - 1).toNatClampNeg) ≤ (p1 - v3)) →
          (vp_in ((12 + (f 1)) + v4) 532) ∧
          ∀ v_74, v_74 = v3 + (f ((12 + (f 1)) + v4).toNatClampNeg) →
          (S_X8_wouldTurn_L21 f p1 fu v_74 (v4 + 1)) ∧
          True)))
def X8_wouldTurn (f : Nat → Int32) (p1 : Int32) : Int32 :=
  let v_10 := f (12 + (f 1)).toNatClampNeg
  if v_10 ≤ p1 then
    X8_wouldTurn_L21 f p1 (((f 0 : Int32).toInt - ((f 1) + 1 : Int32).toInt).toNat + 1) v_10 1
  else
    0
def S_X8_wouldTurn (f : Nat → Int32) (p1 : Int32) : Prop :=
  (vp_in (12 + (f 1)) 532) ∧
  ∀ v_10, v_10 = f (12 + (f 1)).toNatClampNeg →
  (v_10 ≤ p1 →
    (S_X8_wouldTurn_L21 f p1 (((f 0 : Int32).toInt - ((f 1) + 1 : Int32).toInt).toNat + 1) v_10 1) ∧
    True) ∧
  (¬ (v_10 ≤ p1) →
    True)
set_option maxHeartbeats 4000000 in
set_option maxRecDepth 100000 in
theorem c_X8_wouldTurn (l : Launch) (D : va_G) (yI yC yO : ClassId) (b : Nat) (f : Nat → Int32) (p1 : Int32) (hs : S_X8_wouldTurn f p1) : Met l yX8_wouldTurn wsX8_wouldTurn ({ frames := 0, cells := 0, slots := 0, locals := 0 }) (va_Pc [.ref b, .int p1] (lt_R D yI yC yO (lt_Ro yI b 532 f))) (lt_Si (X8_wouldTurn f p1)) 0 0 (fun _ => False) := by
  refine Met.ofW (cc := cX8_wouldTurn) (maxL := 5) (ret := (some .int)) (by decide) rfl ?_
  intro p e s m args below meth c s₁ B0 hml hv
  obtain ⟨rfl, hP, hK0⟩ := hv
  have hx := B0.exec
  have hb := B0.bytes
  have hret := B0.returns
  have hts := atoms_spec (ws := wsX8_wouldTurn) B0.pre
  have hown : s.vm.findClass RX8 = some m.cls := findClass_of_methodNamed B0.named
  have hlocks := B0.notSynchronized
  have hK := hK0.1
  have hN := hK0.2
  have hP : va_P D vwCl (lt_Ro yI b 532 f) s.heap := hP
  have hl := lv_entry ([.ref b, .int p1]) (n := 5) (Nat.le_of_ble_eq_true rfl)
  rw [lg_entry_eq]
  generalize (lg_sl ([.ref b, .int p1]) ++ List.replicate (5 - (lg_sl ([.ref b, .int p1])).length) Slot.unset).toArray = ls at hl ⊢
  have hl : lv_has ls 5 [(0, .ref b), (1, .int p1)] := hl
  refine lv_aload_n hx hb dX8_wouldTurn_0 rfl (lv_at hl 0 rfl) ?_
  refine lv_iconst (v := 1) hx hb dX8_wouldTurn_1 (by decide) ?_
  refine va_iald hx hb hK hP 0 0 rfl rfl (i := 1) (vp_in_iff.mpr (by decide)) dX8_wouldTurn_2 ?_
  refine lt_top (y := (f 1)) rfl ?_
  refine lv_istore_n (lv' := [(2, .int (f 1)), (0, .ref b), (1, .int p1)]) hx hb dX8_wouldTurn_3 rfl hl (by decide) rfl (fun ls hl => ?_)
  refine lv_aload_n hx hb dX8_wouldTurn_4 rfl (lv_at hl 1 rfl) ?_
  refine lv_bipush (v := 12) hx hb dX8_wouldTurn_5 (by decide) ?_
  refine lv_iload_n hx hb dX8_wouldTurn_7 rfl (lv_at hl 0 rfl) ?_
  refine lv_iadd hx hb dX8_wouldTurn_8 ?_
  have ho_9 := hs.1; have hs := hs.2
  refine va_iald hx hb hK hP 0 0 rfl rfl (i := (12 + (f 1))) (ho_9) dX8_wouldTurn_9 ?_
  refine lv_topi (fun v_10 e_v_10 => ?_)
  have hs := hs v_10 e_v_10
  refine lv_istore_n (lv' := [(3, .int v_10), (2, .int (f 1)), (0, .ref b), (1, .int p1)]) hx hb dX8_wouldTurn_10 rfl hl (by decide) rfl (fun ls hl => ?_)
  refine lv_iload_n hx hb dX8_wouldTurn_11 rfl (lv_at hl 3 rfl) ?_
  refine lv_iload_n hx hb dX8_wouldTurn_12 rfl (lv_at hl 0 rfl) ?_
  refine lv_icmp_ge (tgt := 18) hx hb dX8_wouldTurn_13 (by decide) (fun c_13 => ?_) (fun c_13 => ?_)
  · have hs := hs.1 c_13
    refine lv_iconst (v := 1) hx hb dX8_wouldTurn_18 (by decide) ?_
    refine lv_istore (lv' := [(4, .int 1), (3, .int v_10), (2, .int (f 1)), (0, .ref b), (1, .int p1)]) hx hb dX8_wouldTurn_19 hl (by decide) rfl (fun ls hl => ?_)
    refine lt_loop (σ := (Int32) × (Int32)) (fun fu (x : (Int32) × (Int32)) H locs ls => ∃ (v3 : Int32) (v4 : Int32), x = (v3, v4) ∧ lt_fu fu (f 0) ((f 1) + v4) ∧ X8_wouldTurn_L21 f p1 fu v3 v4 = X8_wouldTurn f p1 ∧ S_X8_wouldTurn_L21 f p1 fu v3 v4 ∧ H = s.heap ∧ locs = [] ∧ lv_has ls 5 [(4, .int v4), (3, .int v3), (2, .int (f 1)), (0, .ref b), (1, .int p1)]) ?_ ?_ (((f 0 : Int32).toInt - ((f 1) + 1 : Int32).toInt).toNat + 1) (v_10, 1) _ _ _ ⟨v_10, 1, rfl, lt_fuI _ _, (by subst e_v_10; exact (Eq.symm (Eq.trans (if_pos c_13) rfl))), hs.1, rfl, rfl, (lv_sub hl [0, 1, 2, 3, 4] rfl)⟩
    · rintro x H locs ls ⟨_, _, -, hF, -⟩
      exact lt_fu0 hF
    · rintro fu ih x H locs ls ⟨v3, v4, rfl, hF, hT, hs, rfl, rfl, hl⟩
      refine lv_iload_n hx hb dX8_wouldTurn_21 rfl (lv_at hl 2 rfl) ?_
      refine lv_iload hx hb dX8_wouldTurn_22 (lv_at hl 0 rfl) ?_
      refine lv_iadd hx hb dX8_wouldTurn_24 ?_
      refine lv_aload_n hx hb dX8_wouldTurn_25 rfl (lv_at hl 3 rfl) ?_
      refine lv_iconst (v := 0) hx hb dX8_wouldTurn_26 (by decide) ?_
      refine va_iald hx hb hK hP 0 0 rfl rfl (i := 0) (vp_in_iff.mpr (by decide)) dX8_wouldTurn_27 ?_
      refine lt_top (y := (f 0)) rfl ?_
      refine lv_icmp_ge (tgt := 81) hx hb dX8_wouldTurn_28 (by decide) (fun c_28 => ?_) (fun c_28 => ?_)
      · have hs := hs.1 c_28
        refine lv_iload hx hb dX8_wouldTurn_81 (lv_at hl 0 rfl) ?_
        exact W.iret (v := v4) hx hb hret (fun t ht hW => ⟨v4, rfl, (Eq.trans (Eq.symm (Eq.trans (if_pos c_28) rfl)) hT), ht⟩) (fun _ h => absurd h List.not_mem_nil) dX8_wouldTurn_83
      · have hs := hs.2 c_28
        refine lv_iload_n hx hb dX8_wouldTurn_31 rfl (lv_at hl 4 rfl) ?_
        refine lv_iload_n hx hb dX8_wouldTurn_32 rfl (lv_at hl 1 rfl) ?_
        refine lv_aload_n hx hb dX8_wouldTurn_33 rfl (lv_at hl 3 rfl) ?_
        refine lv_bipush (v := 12) hx hb dX8_wouldTurn_34 (by decide) ?_
        refine lv_iload_n hx hb dX8_wouldTurn_36 rfl (lv_at hl 2 rfl) ?_
        refine lv_iadd hx hb dX8_wouldTurn_37 ?_
        refine lv_iload hx hb dX8_wouldTurn_38 (lv_at hl 0 rfl) ?_
        refine lv_iadd hx hb dX8_wouldTurn_40 ?_
        have ho_41 := hs.1; have hs := hs.2
        refine va_iald hx hb hK hP 0 0 rfl rfl (i := ((12 + (f 1)) + v4)) (ho_41) dX8_wouldTurn_41 ?_
        refine lv_iadd hx hb dX8_wouldTurn_42 ?_
        refine lv_icmp_lt (tgt := 81) hx hb dX8_wouldTurn_43 (by decide) (fun c_43 => ?_) (fun c_43 => ?_)
        · have hs := hs.1 c_43
          refine lv_iload hx hb dX8_wouldTurn_81 (lv_at hl 0 rfl) ?_
          exact W.iret (v := v4) hx hb hret (fun t ht hW => ⟨v4, rfl, (Eq.trans (Eq.symm (Eq.trans (if_neg c_28) (Eq.trans (if_pos c_43) rfl))) hT), ht⟩) (fun _ h => absurd h List.not_mem_nil) dX8_wouldTurn_83
        · have hs := hs.2 c_43
          refine lv_iload_n hx hb dX8_wouldTurn_46 rfl (lv_at hl 4 rfl) ?_
          refine lv_iload_n hx hb dX8_wouldTurn_47 rfl (lv_at hl 1 rfl) ?_
          refine lv_isub hx hb dX8_wouldTurn_48 ?_
          refine lv_aload_n hx hb dX8_wouldTurn_49 rfl (lv_at hl 3 rfl) ?_
          refine lv_bipush (v := 42) hx hb dX8_wouldTurn_50 (by decide) ?_
          refine lv_iload_n hx hb dX8_wouldTurn_52 rfl (lv_at hl 2 rfl) ?_
          refine lv_iadd hx hb dX8_wouldTurn_53 ?_
          refine lv_iload hx hb dX8_wouldTurn_54 (lv_at hl 0 rfl) ?_
          refine lv_iadd hx hb dX8_wouldTurn_56 ?_
          refine lv_iconst (v := 1) hx hb dX8_wouldTurn_57 (by decide) ?_
          refine lv_isub hx hb dX8_wouldTurn_58 ?_
          have ho_59 := hs.1; have hs := hs.2
          refine va_iald hx hb hK hP 0 0 rfl rfl (i := (((42 + (f 1)) + v4) - 1)) (ho_59) dX8_wouldTurn_59 ?_
          refine lv_icmp_ge (tgt := 81) hx hb dX8_wouldTurn_60 (by decide) (fun c_60 => ?_) (fun c_60 => ?_)
          · have hs := hs.1 c_60
            refine lv_iload hx hb dX8_wouldTurn_81 (lv_at hl 0 rfl) ?_
            exact W.iret (v := v4) hx hb hret (fun t ht hW => ⟨v4, rfl, (Eq.trans (Eq.symm (Eq.trans (if_neg c_28) (Eq.trans (if_neg c_43) (Eq.trans (if_pos c_60) rfl)))) hT), ht⟩) (fun _ h => absurd h List.not_mem_nil) dX8_wouldTurn_83
          · have hs := hs.2 c_60
            refine lv_iload_n hx hb dX8_wouldTurn_63 rfl (lv_at hl 1 rfl) ?_
            refine lv_aload_n hx hb dX8_wouldTurn_64 rfl (lv_at hl 3 rfl) ?_
            refine lv_bipush (v := 12) hx hb dX8_wouldTurn_65 (by decide) ?_
            refine lv_iload_n hx hb dX8_wouldTurn_67 rfl (lv_at hl 2 rfl) ?_
            refine lv_iadd hx hb dX8_wouldTurn_68 ?_
            refine lv_iload hx hb dX8_wouldTurn_69 (lv_at hl 0 rfl) ?_
            refine lv_iadd hx hb dX8_wouldTurn_71 ?_
            have ho_72 := hs.1; have hs := hs.2
            refine va_iald hx hb hK hP 0 0 rfl rfl (i := ((12 + (f 1)) + v4)) (ho_72) dX8_wouldTurn_72 ?_
            refine lv_iadd hx hb dX8_wouldTurn_73 ?_
            refine lv_topi (fun v_74 e_v_74 => ?_)
            have hs := hs v_74 e_v_74
            refine lv_istore_n (lv' := [(3, .int v_74), (4, .int v4), (2, .int (f 1)), (0, .ref b), (1, .int p1)]) hx hb dX8_wouldTurn_74 rfl hl (by decide) rfl (fun ls hl => ?_)
            refine lv_iinc (v := (v4 + 1)) (lv' := [(4, .int (v4 + 1)), (3, .int v_74), (2, .int (f 1)), (0, .ref b), (1, .int p1)]) hx hb dX8_wouldTurn_75 hl (k := 1) rfl (rfl) (by decide) rfl (fun ls hl => ?_)
            refine lv_goto (tgt := 21) hx hb dX8_wouldTurn_78 (by decide) ?_
            exact ih (v_74, (v4 + 1)) _ _ _ ⟨v_74, (v4 + 1), rfl, (by rw [← Int32.add_assoc]; exact lt_fuS hF (lt_nle c_28)), (by subst e_v_74; exact (Eq.trans (Eq.symm (Eq.trans (if_neg c_28) (Eq.trans (if_neg c_43) (Eq.trans (if_neg c_60) rfl)))) hT)), hs.1, rfl, rfl, lv_sub hl [0, 1, 2, 3, 4] rfl⟩
  · have hs := hs.2 c_13
    refine lv_iconst (v := 0) hx hb dX8_wouldTurn_16 (by decide) ?_
    exact W.iret (v := 0) hx hb hret (fun t ht hW => ⟨0, rfl, (by subst e_v_10; exact (Eq.symm (Eq.trans (if_neg c_13) rfl))), ht⟩) (fun _ h => absurd h List.not_mem_nil) dX8_wouldTurn_17

def X8_learns (f : Nat → Int32) (p1 : Int32) : (Nat → Int32) :=
  if p1 = 1 then
    if p1 = 0 then
      if (f 10) = 1 then
        if 1 ≤ ((f 8) + 2) then
          if ((f 8) + 2) ≤ 20 then
            ((upd (upd (upd f 7 ((f 7) + 1)) 7 (((f 7) + 1) - ((f 7) + 1) / 5 * 5)) 8 ((f 8) + 2)))
          else
            ((upd (upd (upd f 7 ((f 7) + 1)) 7 (((f 7) + 1) - ((f 7) + 1) / 5 * 5)) 8 20))
        else
          ((upd (upd (upd f 7 ((f 7) + 1)) 7 (((f 7) + 1) - ((f 7) + 1) / 5 * 5)) 8 1))
      else
        ((upd (upd f 7 ((f 7) + 1)) 7 (((f 7) + 1) - ((f 7) + 1) / 5 * 5)))
    else
      if p1 ≤ 1 then
        if ((f 7) + 1) = 5 then
          if (f 10) = 1 then
            if 1 ≤ ((f 8) + (-1)) then
              if ((f 8) + (-1)) ≤ 20 then
                ((upd (upd (upd f 7 ((f 7) + 1)) 7 (((f 7) + 1) - ((f 7) + 1) / 5 * 5)) 8 ((f 8) + (-1))))
              else
                ((upd (upd (upd f 7 ((f 7) + 1)) 7 (((f 7) + 1) - ((f 7) + 1) / 5 * 5)) 8 20))
            else
              ((upd (upd (upd f 7 ((f 7) + 1)) 7 (((f 7) + 1) - ((f 7) + 1) / 5 * 5)) 8 1))
          else
            ((upd (upd f 7 ((f 7) + 1)) 7 (((f 7) + 1) - ((f 7) + 1) / 5 * 5)))
        else
          if (f 10) = 1 then
            if 1 ≤ ((f 8) + 0) then
              if ((f 8) + 0) ≤ 20 then
                ((upd (upd (upd f 7 ((f 7) + 1)) 7 (((f 7) + 1) - ((f 7) + 1) / 5 * 5)) 8 ((f 8) + 0)))
              else
                ((upd (upd (upd f 7 ((f 7) + 1)) 7 (((f 7) + 1) - ((f 7) + 1) / 5 * 5)) 8 20))
            else
              ((upd (upd (upd f 7 ((f 7) + 1)) 7 (((f 7) + 1) - ((f 7) + 1) / 5 * 5)) 8 1))
          else
            ((upd (upd f 7 ((f 7) + 1)) 7 (((f 7) + 1) - ((f 7) + 1) / 5 * 5)))
      else
        if (f 10) = 1 then
          if 1 ≤ ((f 8) + 1) then
            if ((f 8) + 1) ≤ 20 then
              ((upd (upd (upd f 7 ((f 7) + 1)) 7 (((f 7) + 1) - ((f 7) + 1) / 5 * 5)) 8 ((f 8) + 1)))
            else
              ((upd (upd (upd f 7 ((f 7) + 1)) 7 (((f 7) + 1) - ((f 7) + 1) / 5 * 5)) 8 20))
          else
            ((upd (upd (upd f 7 ((f 7) + 1)) 7 (((f 7) + 1) - ((f 7) + 1) / 5 * 5)) 8 1))
        else
          ((upd (upd f 7 ((f 7) + 1)) 7 (((f 7) + 1) - ((f 7) + 1) / 5 * 5)))
  else
    if p1 = 0 then
      if (f 10) = 1 then
        if 1 ≤ ((f 8) + 2) then
          if ((f 8) + 2) ≤ 20 then
            ((upd (upd (upd f 7 0) 7 (0 - 0 / 5 * 5)) 8 ((f 8) + 2)))
          else
            ((upd (upd (upd f 7 0) 7 (0 - 0 / 5 * 5)) 8 20))
        else
          ((upd (upd (upd f 7 0) 7 (0 - 0 / 5 * 5)) 8 1))
      else
        ((upd (upd f 7 0) 7 (0 - 0 / 5 * 5)))
    else
      if p1 ≤ 1 then
        if (f 10) = 1 then
          if 1 ≤ ((f 8) + 0) then
            if ((f 8) + 0) ≤ 20 then
              ((upd (upd (upd f 7 0) 7 (0 - 0 / 5 * 5)) 8 ((f 8) + 0)))
            else
              ((upd (upd (upd f 7 0) 7 (0 - 0 / 5 * 5)) 8 20))
          else
            ((upd (upd (upd f 7 0) 7 (0 - 0 / 5 * 5)) 8 1))
        else
          ((upd (upd f 7 0) 7 (0 - 0 / 5 * 5)))
      else
        if (f 10) = 1 then
          if 1 ≤ ((f 8) + 1) then
            if ((f 8) + 1) ≤ 20 then
              ((upd (upd (upd f 7 0) 7 (0 - 0 / 5 * 5)) 8 ((f 8) + 1)))
            else
              ((upd (upd (upd f 7 0) 7 (0 - 0 / 5 * 5)) 8 20))
          else
            ((upd (upd (upd f 7 0) 7 (0 - 0 / 5 * 5)) 8 1))
        else
          ((upd (upd f 7 0) 7 (0 - 0 / 5 * 5)))
def S_X8_learns (f : Nat → Int32) (p1 : Int32) : Prop :=
  (p1 = 1 →
    (p1 = 0 →
      ((f 10) = 1 →
        (1 ≤ ((f 8) + 2) →
          (((f 8) + 2) ≤ 20 →
            True) ∧
          (¬ (((f 8) + 2) ≤ 20) →
            True)) ∧
        (¬ (1 ≤ ((f 8) + 2)) →
          True)) ∧
      (¬ ((f 10) = 1) →
        True)) ∧
    (¬ (p1 = 0) →
      (p1 ≤ 1 →
        (((f 7) + 1) = 5 →
          ((f 10) = 1 →
            (1 ≤ ((f 8) + (-1)) →
              (((f 8) + (-1)) ≤ 20 →
                True) ∧
              (¬ (((f 8) + (-1)) ≤ 20) →
                True)) ∧
            (¬ (1 ≤ ((f 8) + (-1))) →
              True)) ∧
          (¬ ((f 10) = 1) →
            True)) ∧
        (¬ (((f 7) + 1) = 5) →
          ((f 10) = 1 →
            (1 ≤ ((f 8) + 0) →
              (((f 8) + 0) ≤ 20 →
                True) ∧
              (¬ (((f 8) + 0) ≤ 20) →
                True)) ∧
            (¬ (1 ≤ ((f 8) + 0)) →
              True)) ∧
          (¬ ((f 10) = 1) →
            True))) ∧
      (¬ (p1 ≤ 1) →
        ((f 10) = 1 →
          (1 ≤ ((f 8) + 1) →
            (((f 8) + 1) ≤ 20 →
              True) ∧
            (¬ (((f 8) + 1) ≤ 20) →
              True)) ∧
          (¬ (1 ≤ ((f 8) + 1)) →
            True)) ∧
        (¬ ((f 10) = 1) →
          True)))) ∧
  (¬ (p1 = 1) →
    (p1 = 0 →
      ((f 10) = 1 →
        (1 ≤ ((f 8) + 2) →
          (((f 8) + 2) ≤ 20 →
            True) ∧
          (¬ (((f 8) + 2) ≤ 20) →
            True)) ∧
        (¬ (1 ≤ ((f 8) + 2)) →
          True)) ∧
      (¬ ((f 10) = 1) →
        True)) ∧
    (¬ (p1 = 0) →
      (p1 ≤ 1 →
        ((f 10) = 1 →
          (1 ≤ ((f 8) + 0) →
            (((f 8) + 0) ≤ 20 →
              True) ∧
            (¬ (((f 8) + 0) ≤ 20) →
              True)) ∧
          (¬ (1 ≤ ((f 8) + 0)) →
            True)) ∧
        (¬ ((f 10) = 1) →
          True)) ∧
      (¬ (p1 ≤ 1) →
        ((f 10) = 1 →
          (1 ≤ ((f 8) + 1) →
            (((f 8) + 1) ≤ 20 →
              True) ∧
            (¬ (((f 8) + 1) ≤ 20) →
              True)) ∧
          (¬ (1 ≤ ((f 8) + 1)) →
            True)) ∧
        (¬ ((f 10) = 1) →
          True))))
set_option maxHeartbeats 4000000 in
set_option maxRecDepth 100000 in
theorem c_X8_learns (l : Launch) (D : va_G) (yI yC yO : ClassId) (b : Nat) (f : Nat → Int32) (p1 : Int32) (sz : Nat) (hs : S_X8_learns f p1) : Met l yX8_learns wsX8_learns ({ frames := 0, cells := 0, slots := 0, locals := 0 }) (va_Pc [.ref b, .int p1] (lt_M D yI yC yO (lt_Ro yI b 532 f) sz)) (lt_Qv D (X8_learns f p1) (fun u => lt_Ro yI b 532 u) (va_A (lt_Ro yI b 532 f) sz)) 0 0 (va_A (lt_Ro yI b 532 f) sz) := by
  refine Met.ofW (cc := cX8_learns) (maxL := 4) (ret := none) (by decide) rfl ?_
  intro p e s m args below meth c s₁ B0 hml hv
  obtain ⟨rfl, hsz, hP, hK0, hD0⟩ := hv
  have hx := B0.exec
  have hb := B0.bytes
  have hret := B0.returns
  have hts := atoms_spec (ws := wsX8_learns) B0.pre
  have hown : s.vm.findClass RX8 = some m.cls := findClass_of_methodNamed B0.named
  have hlocks := B0.notSynchronized
  have hK := hK0.1
  have hN := hK0.2
  subst hsz
  have hD := hD0.self (sz := s.heap.size)
  generalize hAe : va_A (lt_Ro yI b 532 f) s.heap.size = A at hD ⊢
  have hA : ∀ q : Nat, s.heap.size ≤ q → A q := fun q h => by rw [← hAe]; exact Or.inr h
  have hS : va_S A s.heap s.heap [] := va_S.rf
  have hP : va_P D vwCl (lt_Ro yI b 532 f) s.heap := hP
  have hD : va_D A (lt_Ro yI b 532 f) := hD
  have hl := lv_entry ([.ref b, .int p1]) (n := 4) (Nat.le_of_ble_eq_true rfl)
  rw [lg_entry_eq]
  generalize (lg_sl ([.ref b, .int p1]) ++ List.replicate (4 - (lg_sl ([.ref b, .int p1])).length) Slot.unset).toArray = ls at hl ⊢
  have hl : lv_has ls 4 [(0, .ref b), (1, .int p1)] := hl
  refine lv_aload_n hx hb dX8_learns_0 rfl (lv_at hl 0 rfl) ?_
  refine lv_bipush (v := 7) hx hb dX8_learns_1 (by decide) ?_
  refine lv_iload_n hx hb dX8_learns_3 rfl (lv_at hl 1 rfl) ?_
  refine lv_iconst (v := 1) hx hb dX8_learns_4 (by decide) ?_
  refine lv_icmp_ne (tgt := 17) hx hb dX8_learns_5 (by decide) (fun c_5 => ?_) (fun c_5 => ?_)
  · have hs := hs.2 c_5
    refine lv_iconst (v := 0) hx hb dX8_learns_17 (by decide) ?_
    refine va_iast hx hb hK hP hD hS 0 0 rfl rfl (i := 7) (x := 0) (vp_in_iff.mpr (by decide)) dX8_learns_18 (fun H locs hP hD hS => ?_)
    have hP : va_P D vwCl (lt_Ro yI b 532 (upd f 7 0)) H := hP
    have hD : va_D A (lt_Ro yI b 532 (upd f 7 0)) := hD
    refine lv_iload_n hx hb dX8_learns_19 rfl (lv_at hl 1 rfl) ?_
    refine lv_if_ne (tgt := 27) hx hb dX8_learns_20 (by decide) (fun c_20 => ?_) (fun c_20 => ?_)
    · have hs := hs.2 c_20
      refine lv_iload_n hx hb dX8_learns_27 rfl (lv_at hl 1 rfl) ?_
      refine lv_iconst (v := 1) hx hb dX8_learns_28 (by decide) ?_
      refine lv_icmp_le (tgt := 36) hx hb dX8_learns_29 (by decide) (fun c_29 => ?_) (fun c_29 => ?_)
      · have hs := hs.1 c_29
        refine lv_aload_n hx hb dX8_learns_36 rfl (lv_at hl 0 rfl) ?_
        refine lv_bipush (v := 7) hx hb dX8_learns_37 (by decide) ?_
        refine va_iald hx hb hK hP 0 0 rfl rfl (i := 7) (vp_in_iff.mpr (by decide)) dX8_learns_39 ?_
        refine lt_top (y := 0) rfl ?_
        refine lv_iconst (v := 5) hx hb dX8_learns_40 (by decide) ?_
        refine lv_icmp_ne (tgt := 48) hx hb dX8_learns_41 (by decide) (fun _ => ?_) (fun c => absurd c (by decide))
        refine lv_iconst (v := 0) hx hb dX8_learns_48 (by decide) ?_
        refine lv_istore_n (lv' := [(2, .int 0), (0, .ref b), (1, .int p1)]) hx hb dX8_learns_49 rfl hl (by decide) rfl (fun ls hl => ?_)
        refine lv_aload_n hx hb dX8_learns_50 rfl (lv_at hl 1 rfl) ?_
        refine lv_bipush (v := 7) hx hb dX8_learns_51 (by decide) ?_
        refine lv_dup2_11 hx hb dX8_learns_53 rfl rfl ?_
        refine va_iald hx hb hK hP 0 0 rfl rfl (i := 7) (vp_in_iff.mpr (by decide)) dX8_learns_54 ?_
        refine lt_top (y := 0) rfl ?_
        refine lv_iconst (v := 5) hx hb dX8_learns_55 (by decide) ?_
        refine lv_irem hx hb dX8_learns_56 (by decide) ?_
        refine va_iast hx hb hK hP hD hS 0 0 rfl rfl (i := 7) (x := (0 - 0 / 5 * 5)) (vp_in_iff.mpr (by decide)) dX8_learns_57 (fun H locs hP hD hS => ?_)
        have hP : va_P D vwCl (lt_Ro yI b 532 (upd (upd f 7 0) 7 (0 - 0 / 5 * 5))) H := hP
        have hD : va_D A (lt_Ro yI b 532 (upd (upd f 7 0) 7 (0 - 0 / 5 * 5))) := hD
        refine lv_aload_n hx hb dX8_learns_58 rfl (lv_at hl 1 rfl) ?_
        refine lv_bipush (v := 10) hx hb dX8_learns_59 (by decide) ?_
        refine va_iald hx hb hK hP 0 0 rfl rfl (i := 10) (vp_in_iff.mpr (by decide)) dX8_learns_61 ?_
        refine lt_top (y := (f 10)) rfl ?_
        refine lv_iconst (v := 1) hx hb dX8_learns_62 (by decide) ?_
        refine lv_icmp_ne (tgt := 98) hx hb dX8_learns_63 (by decide) (fun c_63 => ?_) (fun c_63 => ?_)
        · have hs := hs.2 c_63
          exact W.vret hx hb hret (fun t ht hW => ⟨⟨((upd (upd f 7 0) 7 (0 - 0 / 5 * 5))), rfl, (Eq.symm (Eq.trans (if_neg c_5) (Eq.trans (if_neg c_20) (Eq.trans (if_pos c_29) (Eq.trans (if_neg c_63) rfl))))), by rw [ht]; exact hP, hD⟩, hS.F ht⟩) hS.2.2 dX8_learns_98
        · have hs := hs.1 c_63
          refine lv_aload_n hx hb dX8_learns_66 rfl (lv_at hl 1 rfl) ?_
          refine lv_bipush (v := 8) hx hb dX8_learns_67 (by decide) ?_
          refine va_iald hx hb hK hP 0 0 rfl rfl (i := 8) (vp_in_iff.mpr (by decide)) dX8_learns_69 ?_
          refine lt_top (y := (f 8)) rfl ?_
          refine lv_iload_n hx hb dX8_learns_70 rfl (lv_at hl 0 rfl) ?_
          refine lv_iadd hx hb dX8_learns_71 ?_
          refine lv_istore_n (lv' := [(3, .int ((f 8) + 0)), (2, .int 0), (0, .ref b), (1, .int p1)]) hx hb dX8_learns_72 rfl hl (by decide) rfl (fun ls hl => ?_)
          refine lv_aload_n hx hb dX8_learns_73 rfl (lv_at hl 2 rfl) ?_
          refine lv_bipush (v := 8) hx hb dX8_learns_74 (by decide) ?_
          refine lv_iload_n hx hb dX8_learns_76 rfl (lv_at hl 0 rfl) ?_
          refine lv_iconst (v := 1) hx hb dX8_learns_77 (by decide) ?_
          refine lv_icmp_ge (tgt := 85) hx hb dX8_learns_78 (by decide) (fun c_78 => ?_) (fun c_78 => ?_)
          · have hs := hs.1 c_78
            refine lv_iload_n hx hb dX8_learns_85 rfl (lv_at hl 0 rfl) ?_
            refine lv_bipush (v := 20) hx hb dX8_learns_86 (by decide) ?_
            refine lv_icmp_le (tgt := 96) hx hb dX8_learns_88 (by decide) (fun c_88 => ?_) (fun c_88 => ?_)
            · have hs := hs.1 c_88
              refine lv_iload_n hx hb dX8_learns_96 rfl (lv_at hl 0 rfl) ?_
              refine va_iast hx hb hK hP hD hS 0 0 rfl rfl (i := 8) (x := ((f 8) + 0)) (vp_in_iff.mpr (by decide)) dX8_learns_97 (fun H locs hP hD hS => ?_)
              have hP : va_P D vwCl (lt_Ro yI b 532 (upd (upd (upd f 7 0) 7 (0 - 0 / 5 * 5)) 8 ((f 8) + 0))) H := hP
              have hD : va_D A (lt_Ro yI b 532 (upd (upd (upd f 7 0) 7 (0 - 0 / 5 * 5)) 8 ((f 8) + 0))) := hD
              exact W.vret hx hb hret (fun t ht hW => ⟨⟨((upd (upd (upd f 7 0) 7 (0 - 0 / 5 * 5)) 8 ((f 8) + 0))), rfl, (Eq.symm (Eq.trans (if_neg c_5) (Eq.trans (if_neg c_20) (Eq.trans (if_pos c_29) (Eq.trans (if_pos c_63) (Eq.trans (if_pos c_78) (Eq.trans (if_pos c_88) rfl))))))), by rw [ht]; exact hP, hD⟩, hS.F ht⟩) hS.2.2 dX8_learns_98
            · have hs := hs.2 c_88
              refine lv_bipush (v := 20) hx hb dX8_learns_91 (by decide) ?_
              refine lv_goto (tgt := 97) hx hb dX8_learns_93 (by decide) ?_
              refine va_iast hx hb hK hP hD hS 0 0 rfl rfl (i := 8) (x := 20) (vp_in_iff.mpr (by decide)) dX8_learns_97 (fun H locs hP hD hS => ?_)
              have hP : va_P D vwCl (lt_Ro yI b 532 (upd (upd (upd f 7 0) 7 (0 - 0 / 5 * 5)) 8 20)) H := hP
              have hD : va_D A (lt_Ro yI b 532 (upd (upd (upd f 7 0) 7 (0 - 0 / 5 * 5)) 8 20)) := hD
              exact W.vret hx hb hret (fun t ht hW => ⟨⟨((upd (upd (upd f 7 0) 7 (0 - 0 / 5 * 5)) 8 20)), rfl, (Eq.symm (Eq.trans (if_neg c_5) (Eq.trans (if_neg c_20) (Eq.trans (if_pos c_29) (Eq.trans (if_pos c_63) (Eq.trans (if_pos c_78) (Eq.trans (if_neg c_88) rfl))))))), by rw [ht]; exact hP, hD⟩, hS.F ht⟩) hS.2.2 dX8_learns_98
          · have hs := hs.2 c_78
            refine lv_iconst (v := 1) hx hb dX8_learns_81 (by decide) ?_
            refine lv_goto (tgt := 97) hx hb dX8_learns_82 (by decide) ?_
            refine va_iast hx hb hK hP hD hS 0 0 rfl rfl (i := 8) (x := 1) (vp_in_iff.mpr (by decide)) dX8_learns_97 (fun H locs hP hD hS => ?_)
            have hP : va_P D vwCl (lt_Ro yI b 532 (upd (upd (upd f 7 0) 7 (0 - 0 / 5 * 5)) 8 1)) H := hP
            have hD : va_D A (lt_Ro yI b 532 (upd (upd (upd f 7 0) 7 (0 - 0 / 5 * 5)) 8 1)) := hD
            exact W.vret hx hb hret (fun t ht hW => ⟨⟨((upd (upd (upd f 7 0) 7 (0 - 0 / 5 * 5)) 8 1)), rfl, (Eq.symm (Eq.trans (if_neg c_5) (Eq.trans (if_neg c_20) (Eq.trans (if_pos c_29) (Eq.trans (if_pos c_63) (Eq.trans (if_neg c_78) rfl)))))), by rw [ht]; exact hP, hD⟩, hS.F ht⟩) hS.2.2 dX8_learns_98
      · have hs := hs.2 c_29
        refine lv_iconst (v := 1) hx hb dX8_learns_32 (by decide) ?_
        refine lv_goto (tgt := 49) hx hb dX8_learns_33 (by decide) ?_
        refine lv_istore_n (lv' := [(2, .int 1), (0, .ref b), (1, .int p1)]) hx hb dX8_learns_49 rfl hl (by decide) rfl (fun ls hl => ?_)
        refine lv_aload_n hx hb dX8_learns_50 rfl (lv_at hl 1 rfl) ?_
        refine lv_bipush (v := 7) hx hb dX8_learns_51 (by decide) ?_
        refine lv_dup2_11 hx hb dX8_learns_53 rfl rfl ?_
        refine va_iald hx hb hK hP 0 0 rfl rfl (i := 7) (vp_in_iff.mpr (by decide)) dX8_learns_54 ?_
        refine lt_top (y := 0) rfl ?_
        refine lv_iconst (v := 5) hx hb dX8_learns_55 (by decide) ?_
        refine lv_irem hx hb dX8_learns_56 (by decide) ?_
        refine va_iast hx hb hK hP hD hS 0 0 rfl rfl (i := 7) (x := (0 - 0 / 5 * 5)) (vp_in_iff.mpr (by decide)) dX8_learns_57 (fun H locs hP hD hS => ?_)
        have hP : va_P D vwCl (lt_Ro yI b 532 (upd (upd f 7 0) 7 (0 - 0 / 5 * 5))) H := hP
        have hD : va_D A (lt_Ro yI b 532 (upd (upd f 7 0) 7 (0 - 0 / 5 * 5))) := hD
        refine lv_aload_n hx hb dX8_learns_58 rfl (lv_at hl 1 rfl) ?_
        refine lv_bipush (v := 10) hx hb dX8_learns_59 (by decide) ?_
        refine va_iald hx hb hK hP 0 0 rfl rfl (i := 10) (vp_in_iff.mpr (by decide)) dX8_learns_61 ?_
        refine lt_top (y := (f 10)) rfl ?_
        refine lv_iconst (v := 1) hx hb dX8_learns_62 (by decide) ?_
        refine lv_icmp_ne (tgt := 98) hx hb dX8_learns_63 (by decide) (fun c_63 => ?_) (fun c_63 => ?_)
        · have hs := hs.2 c_63
          exact W.vret hx hb hret (fun t ht hW => ⟨⟨((upd (upd f 7 0) 7 (0 - 0 / 5 * 5))), rfl, (Eq.symm (Eq.trans (if_neg c_5) (Eq.trans (if_neg c_20) (Eq.trans (if_neg c_29) (Eq.trans (if_neg c_63) rfl))))), by rw [ht]; exact hP, hD⟩, hS.F ht⟩) hS.2.2 dX8_learns_98
        · have hs := hs.1 c_63
          refine lv_aload_n hx hb dX8_learns_66 rfl (lv_at hl 1 rfl) ?_
          refine lv_bipush (v := 8) hx hb dX8_learns_67 (by decide) ?_
          refine va_iald hx hb hK hP 0 0 rfl rfl (i := 8) (vp_in_iff.mpr (by decide)) dX8_learns_69 ?_
          refine lt_top (y := (f 8)) rfl ?_
          refine lv_iload_n hx hb dX8_learns_70 rfl (lv_at hl 0 rfl) ?_
          refine lv_iadd hx hb dX8_learns_71 ?_
          refine lv_istore_n (lv' := [(3, .int ((f 8) + 1)), (2, .int 1), (0, .ref b), (1, .int p1)]) hx hb dX8_learns_72 rfl hl (by decide) rfl (fun ls hl => ?_)
          refine lv_aload_n hx hb dX8_learns_73 rfl (lv_at hl 2 rfl) ?_
          refine lv_bipush (v := 8) hx hb dX8_learns_74 (by decide) ?_
          refine lv_iload_n hx hb dX8_learns_76 rfl (lv_at hl 0 rfl) ?_
          refine lv_iconst (v := 1) hx hb dX8_learns_77 (by decide) ?_
          refine lv_icmp_ge (tgt := 85) hx hb dX8_learns_78 (by decide) (fun c_78 => ?_) (fun c_78 => ?_)
          · have hs := hs.1 c_78
            refine lv_iload_n hx hb dX8_learns_85 rfl (lv_at hl 0 rfl) ?_
            refine lv_bipush (v := 20) hx hb dX8_learns_86 (by decide) ?_
            refine lv_icmp_le (tgt := 96) hx hb dX8_learns_88 (by decide) (fun c_88 => ?_) (fun c_88 => ?_)
            · have hs := hs.1 c_88
              refine lv_iload_n hx hb dX8_learns_96 rfl (lv_at hl 0 rfl) ?_
              refine va_iast hx hb hK hP hD hS 0 0 rfl rfl (i := 8) (x := ((f 8) + 1)) (vp_in_iff.mpr (by decide)) dX8_learns_97 (fun H locs hP hD hS => ?_)
              have hP : va_P D vwCl (lt_Ro yI b 532 (upd (upd (upd f 7 0) 7 (0 - 0 / 5 * 5)) 8 ((f 8) + 1))) H := hP
              have hD : va_D A (lt_Ro yI b 532 (upd (upd (upd f 7 0) 7 (0 - 0 / 5 * 5)) 8 ((f 8) + 1))) := hD
              exact W.vret hx hb hret (fun t ht hW => ⟨⟨((upd (upd (upd f 7 0) 7 (0 - 0 / 5 * 5)) 8 ((f 8) + 1))), rfl, (Eq.symm (Eq.trans (if_neg c_5) (Eq.trans (if_neg c_20) (Eq.trans (if_neg c_29) (Eq.trans (if_pos c_63) (Eq.trans (if_pos c_78) (Eq.trans (if_pos c_88) rfl))))))), by rw [ht]; exact hP, hD⟩, hS.F ht⟩) hS.2.2 dX8_learns_98
            · have hs := hs.2 c_88
              refine lv_bipush (v := 20) hx hb dX8_learns_91 (by decide) ?_
              refine lv_goto (tgt := 97) hx hb dX8_learns_93 (by decide) ?_
              refine va_iast hx hb hK hP hD hS 0 0 rfl rfl (i := 8) (x := 20) (vp_in_iff.mpr (by decide)) dX8_learns_97 (fun H locs hP hD hS => ?_)
              have hP : va_P D vwCl (lt_Ro yI b 532 (upd (upd (upd f 7 0) 7 (0 - 0 / 5 * 5)) 8 20)) H := hP
              have hD : va_D A (lt_Ro yI b 532 (upd (upd (upd f 7 0) 7 (0 - 0 / 5 * 5)) 8 20)) := hD
              exact W.vret hx hb hret (fun t ht hW => ⟨⟨((upd (upd (upd f 7 0) 7 (0 - 0 / 5 * 5)) 8 20)), rfl, (Eq.symm (Eq.trans (if_neg c_5) (Eq.trans (if_neg c_20) (Eq.trans (if_neg c_29) (Eq.trans (if_pos c_63) (Eq.trans (if_pos c_78) (Eq.trans (if_neg c_88) rfl))))))), by rw [ht]; exact hP, hD⟩, hS.F ht⟩) hS.2.2 dX8_learns_98
          · have hs := hs.2 c_78
            refine lv_iconst (v := 1) hx hb dX8_learns_81 (by decide) ?_
            refine lv_goto (tgt := 97) hx hb dX8_learns_82 (by decide) ?_
            refine va_iast hx hb hK hP hD hS 0 0 rfl rfl (i := 8) (x := 1) (vp_in_iff.mpr (by decide)) dX8_learns_97 (fun H locs hP hD hS => ?_)
            have hP : va_P D vwCl (lt_Ro yI b 532 (upd (upd (upd f 7 0) 7 (0 - 0 / 5 * 5)) 8 1)) H := hP
            have hD : va_D A (lt_Ro yI b 532 (upd (upd (upd f 7 0) 7 (0 - 0 / 5 * 5)) 8 1)) := hD
            exact W.vret hx hb hret (fun t ht hW => ⟨⟨((upd (upd (upd f 7 0) 7 (0 - 0 / 5 * 5)) 8 1)), rfl, (Eq.symm (Eq.trans (if_neg c_5) (Eq.trans (if_neg c_20) (Eq.trans (if_neg c_29) (Eq.trans (if_pos c_63) (Eq.trans (if_neg c_78) rfl)))))), by rw [ht]; exact hP, hD⟩, hS.F ht⟩) hS.2.2 dX8_learns_98
    · have hs := hs.1 c_20
      refine lv_iconst (v := 2) hx hb dX8_learns_23 (by decide) ?_
      refine lv_goto (tgt := 49) hx hb dX8_learns_24 (by decide) ?_
      refine lv_istore_n (lv' := [(2, .int 2), (0, .ref b), (1, .int p1)]) hx hb dX8_learns_49 rfl hl (by decide) rfl (fun ls hl => ?_)
      refine lv_aload_n hx hb dX8_learns_50 rfl (lv_at hl 1 rfl) ?_
      refine lv_bipush (v := 7) hx hb dX8_learns_51 (by decide) ?_
      refine lv_dup2_11 hx hb dX8_learns_53 rfl rfl ?_
      refine va_iald hx hb hK hP 0 0 rfl rfl (i := 7) (vp_in_iff.mpr (by decide)) dX8_learns_54 ?_
      refine lt_top (y := 0) rfl ?_
      refine lv_iconst (v := 5) hx hb dX8_learns_55 (by decide) ?_
      refine lv_irem hx hb dX8_learns_56 (by decide) ?_
      refine va_iast hx hb hK hP hD hS 0 0 rfl rfl (i := 7) (x := (0 - 0 / 5 * 5)) (vp_in_iff.mpr (by decide)) dX8_learns_57 (fun H locs hP hD hS => ?_)
      have hP : va_P D vwCl (lt_Ro yI b 532 (upd (upd f 7 0) 7 (0 - 0 / 5 * 5))) H := hP
      have hD : va_D A (lt_Ro yI b 532 (upd (upd f 7 0) 7 (0 - 0 / 5 * 5))) := hD
      refine lv_aload_n hx hb dX8_learns_58 rfl (lv_at hl 1 rfl) ?_
      refine lv_bipush (v := 10) hx hb dX8_learns_59 (by decide) ?_
      refine va_iald hx hb hK hP 0 0 rfl rfl (i := 10) (vp_in_iff.mpr (by decide)) dX8_learns_61 ?_
      refine lt_top (y := (f 10)) rfl ?_
      refine lv_iconst (v := 1) hx hb dX8_learns_62 (by decide) ?_
      refine lv_icmp_ne (tgt := 98) hx hb dX8_learns_63 (by decide) (fun c_63 => ?_) (fun c_63 => ?_)
      · have hs := hs.2 c_63
        exact W.vret hx hb hret (fun t ht hW => ⟨⟨((upd (upd f 7 0) 7 (0 - 0 / 5 * 5))), rfl, (Eq.symm (Eq.trans (if_neg c_5) (Eq.trans (if_pos c_20) (Eq.trans (if_neg c_63) rfl)))), by rw [ht]; exact hP, hD⟩, hS.F ht⟩) hS.2.2 dX8_learns_98
      · have hs := hs.1 c_63
        refine lv_aload_n hx hb dX8_learns_66 rfl (lv_at hl 1 rfl) ?_
        refine lv_bipush (v := 8) hx hb dX8_learns_67 (by decide) ?_
        refine va_iald hx hb hK hP 0 0 rfl rfl (i := 8) (vp_in_iff.mpr (by decide)) dX8_learns_69 ?_
        refine lt_top (y := (f 8)) rfl ?_
        refine lv_iload_n hx hb dX8_learns_70 rfl (lv_at hl 0 rfl) ?_
        refine lv_iadd hx hb dX8_learns_71 ?_
        refine lv_istore_n (lv' := [(3, .int ((f 8) + 2)), (2, .int 2), (0, .ref b), (1, .int p1)]) hx hb dX8_learns_72 rfl hl (by decide) rfl (fun ls hl => ?_)
        refine lv_aload_n hx hb dX8_learns_73 rfl (lv_at hl 2 rfl) ?_
        refine lv_bipush (v := 8) hx hb dX8_learns_74 (by decide) ?_
        refine lv_iload_n hx hb dX8_learns_76 rfl (lv_at hl 0 rfl) ?_
        refine lv_iconst (v := 1) hx hb dX8_learns_77 (by decide) ?_
        refine lv_icmp_ge (tgt := 85) hx hb dX8_learns_78 (by decide) (fun c_78 => ?_) (fun c_78 => ?_)
        · have hs := hs.1 c_78
          refine lv_iload_n hx hb dX8_learns_85 rfl (lv_at hl 0 rfl) ?_
          refine lv_bipush (v := 20) hx hb dX8_learns_86 (by decide) ?_
          refine lv_icmp_le (tgt := 96) hx hb dX8_learns_88 (by decide) (fun c_88 => ?_) (fun c_88 => ?_)
          · have hs := hs.1 c_88
            refine lv_iload_n hx hb dX8_learns_96 rfl (lv_at hl 0 rfl) ?_
            refine va_iast hx hb hK hP hD hS 0 0 rfl rfl (i := 8) (x := ((f 8) + 2)) (vp_in_iff.mpr (by decide)) dX8_learns_97 (fun H locs hP hD hS => ?_)
            have hP : va_P D vwCl (lt_Ro yI b 532 (upd (upd (upd f 7 0) 7 (0 - 0 / 5 * 5)) 8 ((f 8) + 2))) H := hP
            have hD : va_D A (lt_Ro yI b 532 (upd (upd (upd f 7 0) 7 (0 - 0 / 5 * 5)) 8 ((f 8) + 2))) := hD
            exact W.vret hx hb hret (fun t ht hW => ⟨⟨((upd (upd (upd f 7 0) 7 (0 - 0 / 5 * 5)) 8 ((f 8) + 2))), rfl, (Eq.symm (Eq.trans (if_neg c_5) (Eq.trans (if_pos c_20) (Eq.trans (if_pos c_63) (Eq.trans (if_pos c_78) (Eq.trans (if_pos c_88) rfl)))))), by rw [ht]; exact hP, hD⟩, hS.F ht⟩) hS.2.2 dX8_learns_98
          · have hs := hs.2 c_88
            refine lv_bipush (v := 20) hx hb dX8_learns_91 (by decide) ?_
            refine lv_goto (tgt := 97) hx hb dX8_learns_93 (by decide) ?_
            refine va_iast hx hb hK hP hD hS 0 0 rfl rfl (i := 8) (x := 20) (vp_in_iff.mpr (by decide)) dX8_learns_97 (fun H locs hP hD hS => ?_)
            have hP : va_P D vwCl (lt_Ro yI b 532 (upd (upd (upd f 7 0) 7 (0 - 0 / 5 * 5)) 8 20)) H := hP
            have hD : va_D A (lt_Ro yI b 532 (upd (upd (upd f 7 0) 7 (0 - 0 / 5 * 5)) 8 20)) := hD
            exact W.vret hx hb hret (fun t ht hW => ⟨⟨((upd (upd (upd f 7 0) 7 (0 - 0 / 5 * 5)) 8 20)), rfl, (Eq.symm (Eq.trans (if_neg c_5) (Eq.trans (if_pos c_20) (Eq.trans (if_pos c_63) (Eq.trans (if_pos c_78) (Eq.trans (if_neg c_88) rfl)))))), by rw [ht]; exact hP, hD⟩, hS.F ht⟩) hS.2.2 dX8_learns_98
        · have hs := hs.2 c_78
          refine lv_iconst (v := 1) hx hb dX8_learns_81 (by decide) ?_
          refine lv_goto (tgt := 97) hx hb dX8_learns_82 (by decide) ?_
          refine va_iast hx hb hK hP hD hS 0 0 rfl rfl (i := 8) (x := 1) (vp_in_iff.mpr (by decide)) dX8_learns_97 (fun H locs hP hD hS => ?_)
          have hP : va_P D vwCl (lt_Ro yI b 532 (upd (upd (upd f 7 0) 7 (0 - 0 / 5 * 5)) 8 1)) H := hP
          have hD : va_D A (lt_Ro yI b 532 (upd (upd (upd f 7 0) 7 (0 - 0 / 5 * 5)) 8 1)) := hD
          exact W.vret hx hb hret (fun t ht hW => ⟨⟨((upd (upd (upd f 7 0) 7 (0 - 0 / 5 * 5)) 8 1)), rfl, (Eq.symm (Eq.trans (if_neg c_5) (Eq.trans (if_pos c_20) (Eq.trans (if_pos c_63) (Eq.trans (if_neg c_78) rfl))))), by rw [ht]; exact hP, hD⟩, hS.F ht⟩) hS.2.2 dX8_learns_98
  · have hs := hs.1 c_5
    refine lv_aload_n hx hb dX8_learns_8 rfl (lv_at hl 0 rfl) ?_
    refine lv_bipush (v := 7) hx hb dX8_learns_9 (by decide) ?_
    refine va_iald hx hb hK hP 0 0 rfl rfl (i := 7) (vp_in_iff.mpr (by decide)) dX8_learns_11 ?_
    refine lt_top (y := (f 7)) rfl ?_
    refine lv_iconst (v := 1) hx hb dX8_learns_12 (by decide) ?_
    refine lv_iadd hx hb dX8_learns_13 ?_
    refine lv_goto (tgt := 18) hx hb dX8_learns_14 (by decide) ?_
    refine va_iast hx hb hK hP hD hS 0 0 rfl rfl (i := 7) (x := ((f 7) + 1)) (vp_in_iff.mpr (by decide)) dX8_learns_18 (fun H locs hP hD hS => ?_)
    have hP : va_P D vwCl (lt_Ro yI b 532 (upd f 7 ((f 7) + 1))) H := hP
    have hD : va_D A (lt_Ro yI b 532 (upd f 7 ((f 7) + 1))) := hD
    refine lv_iload_n hx hb dX8_learns_19 rfl (lv_at hl 1 rfl) ?_
    refine lv_if_ne (tgt := 27) hx hb dX8_learns_20 (by decide) (fun c_20 => ?_) (fun c_20 => ?_)
    · have hs := hs.2 c_20
      refine lv_iload_n hx hb dX8_learns_27 rfl (lv_at hl 1 rfl) ?_
      refine lv_iconst (v := 1) hx hb dX8_learns_28 (by decide) ?_
      refine lv_icmp_le (tgt := 36) hx hb dX8_learns_29 (by decide) (fun c_29 => ?_) (fun c_29 => ?_)
      · have hs := hs.1 c_29
        refine lv_aload_n hx hb dX8_learns_36 rfl (lv_at hl 0 rfl) ?_
        refine lv_bipush (v := 7) hx hb dX8_learns_37 (by decide) ?_
        refine va_iald hx hb hK hP 0 0 rfl rfl (i := 7) (vp_in_iff.mpr (by decide)) dX8_learns_39 ?_
        refine lt_top (y := ((f 7) + 1)) rfl ?_
        refine lv_iconst (v := 5) hx hb dX8_learns_40 (by decide) ?_
        refine lv_icmp_ne (tgt := 48) hx hb dX8_learns_41 (by decide) (fun c_41 => ?_) (fun c_41 => ?_)
        · have hs := hs.2 c_41
          refine lv_iconst (v := 0) hx hb dX8_learns_48 (by decide) ?_
          refine lv_istore_n (lv' := [(2, .int 0), (0, .ref b), (1, .int p1)]) hx hb dX8_learns_49 rfl hl (by decide) rfl (fun ls hl => ?_)
          refine lv_aload_n hx hb dX8_learns_50 rfl (lv_at hl 1 rfl) ?_
          refine lv_bipush (v := 7) hx hb dX8_learns_51 (by decide) ?_
          refine lv_dup2_11 hx hb dX8_learns_53 rfl rfl ?_
          refine va_iald hx hb hK hP 0 0 rfl rfl (i := 7) (vp_in_iff.mpr (by decide)) dX8_learns_54 ?_
          refine lt_top (y := ((f 7) + 1)) rfl ?_
          refine lv_iconst (v := 5) hx hb dX8_learns_55 (by decide) ?_
          refine lv_irem hx hb dX8_learns_56 (by decide) ?_
          refine va_iast hx hb hK hP hD hS 0 0 rfl rfl (i := 7) (x := (((f 7) + 1) - ((f 7) + 1) / 5 * 5)) (vp_in_iff.mpr (by decide)) dX8_learns_57 (fun H locs hP hD hS => ?_)
          have hP : va_P D vwCl (lt_Ro yI b 532 (upd (upd f 7 ((f 7) + 1)) 7 (((f 7) + 1) - ((f 7) + 1) / 5 * 5))) H := hP
          have hD : va_D A (lt_Ro yI b 532 (upd (upd f 7 ((f 7) + 1)) 7 (((f 7) + 1) - ((f 7) + 1) / 5 * 5))) := hD
          refine lv_aload_n hx hb dX8_learns_58 rfl (lv_at hl 1 rfl) ?_
          refine lv_bipush (v := 10) hx hb dX8_learns_59 (by decide) ?_
          refine va_iald hx hb hK hP 0 0 rfl rfl (i := 10) (vp_in_iff.mpr (by decide)) dX8_learns_61 ?_
          refine lt_top (y := (f 10)) rfl ?_
          refine lv_iconst (v := 1) hx hb dX8_learns_62 (by decide) ?_
          refine lv_icmp_ne (tgt := 98) hx hb dX8_learns_63 (by decide) (fun c_63 => ?_) (fun c_63 => ?_)
          · have hs := hs.2 c_63
            exact W.vret hx hb hret (fun t ht hW => ⟨⟨((upd (upd f 7 ((f 7) + 1)) 7 (((f 7) + 1) - ((f 7) + 1) / 5 * 5))), rfl, (Eq.symm (Eq.trans (if_pos c_5) (Eq.trans (if_neg c_20) (Eq.trans (if_pos c_29) (Eq.trans (if_neg c_41) (Eq.trans (if_neg c_63) rfl)))))), by rw [ht]; exact hP, hD⟩, hS.F ht⟩) hS.2.2 dX8_learns_98
          · have hs := hs.1 c_63
            refine lv_aload_n hx hb dX8_learns_66 rfl (lv_at hl 1 rfl) ?_
            refine lv_bipush (v := 8) hx hb dX8_learns_67 (by decide) ?_
            refine va_iald hx hb hK hP 0 0 rfl rfl (i := 8) (vp_in_iff.mpr (by decide)) dX8_learns_69 ?_
            refine lt_top (y := (f 8)) rfl ?_
            refine lv_iload_n hx hb dX8_learns_70 rfl (lv_at hl 0 rfl) ?_
            refine lv_iadd hx hb dX8_learns_71 ?_
            refine lv_istore_n (lv' := [(3, .int ((f 8) + 0)), (2, .int 0), (0, .ref b), (1, .int p1)]) hx hb dX8_learns_72 rfl hl (by decide) rfl (fun ls hl => ?_)
            refine lv_aload_n hx hb dX8_learns_73 rfl (lv_at hl 2 rfl) ?_
            refine lv_bipush (v := 8) hx hb dX8_learns_74 (by decide) ?_
            refine lv_iload_n hx hb dX8_learns_76 rfl (lv_at hl 0 rfl) ?_
            refine lv_iconst (v := 1) hx hb dX8_learns_77 (by decide) ?_
            refine lv_icmp_ge (tgt := 85) hx hb dX8_learns_78 (by decide) (fun c_78 => ?_) (fun c_78 => ?_)
            · have hs := hs.1 c_78
              refine lv_iload_n hx hb dX8_learns_85 rfl (lv_at hl 0 rfl) ?_
              refine lv_bipush (v := 20) hx hb dX8_learns_86 (by decide) ?_
              refine lv_icmp_le (tgt := 96) hx hb dX8_learns_88 (by decide) (fun c_88 => ?_) (fun c_88 => ?_)
              · have hs := hs.1 c_88
                refine lv_iload_n hx hb dX8_learns_96 rfl (lv_at hl 0 rfl) ?_
                refine va_iast hx hb hK hP hD hS 0 0 rfl rfl (i := 8) (x := ((f 8) + 0)) (vp_in_iff.mpr (by decide)) dX8_learns_97 (fun H locs hP hD hS => ?_)
                have hP : va_P D vwCl (lt_Ro yI b 532 (upd (upd (upd f 7 ((f 7) + 1)) 7 (((f 7) + 1) - ((f 7) + 1) / 5 * 5)) 8 ((f 8) + 0))) H := hP
                have hD : va_D A (lt_Ro yI b 532 (upd (upd (upd f 7 ((f 7) + 1)) 7 (((f 7) + 1) - ((f 7) + 1) / 5 * 5)) 8 ((f 8) + 0))) := hD
                exact W.vret hx hb hret (fun t ht hW => ⟨⟨((upd (upd (upd f 7 ((f 7) + 1)) 7 (((f 7) + 1) - ((f 7) + 1) / 5 * 5)) 8 ((f 8) + 0))), rfl, (Eq.symm (Eq.trans (if_pos c_5) (Eq.trans (if_neg c_20) (Eq.trans (if_pos c_29) (Eq.trans (if_neg c_41) (Eq.trans (if_pos c_63) (Eq.trans (if_pos c_78) (Eq.trans (if_pos c_88) rfl)))))))), by rw [ht]; exact hP, hD⟩, hS.F ht⟩) hS.2.2 dX8_learns_98
              · have hs := hs.2 c_88
                refine lv_bipush (v := 20) hx hb dX8_learns_91 (by decide) ?_
                refine lv_goto (tgt := 97) hx hb dX8_learns_93 (by decide) ?_
                refine va_iast hx hb hK hP hD hS 0 0 rfl rfl (i := 8) (x := 20) (vp_in_iff.mpr (by decide)) dX8_learns_97 (fun H locs hP hD hS => ?_)
                have hP : va_P D vwCl (lt_Ro yI b 532 (upd (upd (upd f 7 ((f 7) + 1)) 7 (((f 7) + 1) - ((f 7) + 1) / 5 * 5)) 8 20)) H := hP
                have hD : va_D A (lt_Ro yI b 532 (upd (upd (upd f 7 ((f 7) + 1)) 7 (((f 7) + 1) - ((f 7) + 1) / 5 * 5)) 8 20)) := hD
                exact W.vret hx hb hret (fun t ht hW => ⟨⟨((upd (upd (upd f 7 ((f 7) + 1)) 7 (((f 7) + 1) - ((f 7) + 1) / 5 * 5)) 8 20)), rfl, (Eq.symm (Eq.trans (if_pos c_5) (Eq.trans (if_neg c_20) (Eq.trans (if_pos c_29) (Eq.trans (if_neg c_41) (Eq.trans (if_pos c_63) (Eq.trans (if_pos c_78) (Eq.trans (if_neg c_88) rfl)))))))), by rw [ht]; exact hP, hD⟩, hS.F ht⟩) hS.2.2 dX8_learns_98
            · have hs := hs.2 c_78
              refine lv_iconst (v := 1) hx hb dX8_learns_81 (by decide) ?_
              refine lv_goto (tgt := 97) hx hb dX8_learns_82 (by decide) ?_
              refine va_iast hx hb hK hP hD hS 0 0 rfl rfl (i := 8) (x := 1) (vp_in_iff.mpr (by decide)) dX8_learns_97 (fun H locs hP hD hS => ?_)
              have hP : va_P D vwCl (lt_Ro yI b 532 (upd (upd (upd f 7 ((f 7) + 1)) 7 (((f 7) + 1) - ((f 7) + 1) / 5 * 5)) 8 1)) H := hP
              have hD : va_D A (lt_Ro yI b 532 (upd (upd (upd f 7 ((f 7) + 1)) 7 (((f 7) + 1) - ((f 7) + 1) / 5 * 5)) 8 1)) := hD
              exact W.vret hx hb hret (fun t ht hW => ⟨⟨((upd (upd (upd f 7 ((f 7) + 1)) 7 (((f 7) + 1) - ((f 7) + 1) / 5 * 5)) 8 1)), rfl, (Eq.symm (Eq.trans (if_pos c_5) (Eq.trans (if_neg c_20) (Eq.trans (if_pos c_29) (Eq.trans (if_neg c_41) (Eq.trans (if_pos c_63) (Eq.trans (if_neg c_78) rfl))))))), by rw [ht]; exact hP, hD⟩, hS.F ht⟩) hS.2.2 dX8_learns_98
        · have hs := hs.1 c_41
          refine lv_iconst (v := (-1)) hx hb dX8_learns_44 (by decide) ?_
          refine lv_goto (tgt := 49) hx hb dX8_learns_45 (by decide) ?_
          refine lv_istore_n (lv' := [(2, .int (-1)), (0, .ref b), (1, .int p1)]) hx hb dX8_learns_49 rfl hl (by decide) rfl (fun ls hl => ?_)
          refine lv_aload_n hx hb dX8_learns_50 rfl (lv_at hl 1 rfl) ?_
          refine lv_bipush (v := 7) hx hb dX8_learns_51 (by decide) ?_
          refine lv_dup2_11 hx hb dX8_learns_53 rfl rfl ?_
          refine va_iald hx hb hK hP 0 0 rfl rfl (i := 7) (vp_in_iff.mpr (by decide)) dX8_learns_54 ?_
          refine lt_top (y := ((f 7) + 1)) rfl ?_
          refine lv_iconst (v := 5) hx hb dX8_learns_55 (by decide) ?_
          refine lv_irem hx hb dX8_learns_56 (by decide) ?_
          refine va_iast hx hb hK hP hD hS 0 0 rfl rfl (i := 7) (x := (((f 7) + 1) - ((f 7) + 1) / 5 * 5)) (vp_in_iff.mpr (by decide)) dX8_learns_57 (fun H locs hP hD hS => ?_)
          have hP : va_P D vwCl (lt_Ro yI b 532 (upd (upd f 7 ((f 7) + 1)) 7 (((f 7) + 1) - ((f 7) + 1) / 5 * 5))) H := hP
          have hD : va_D A (lt_Ro yI b 532 (upd (upd f 7 ((f 7) + 1)) 7 (((f 7) + 1) - ((f 7) + 1) / 5 * 5))) := hD
          refine lv_aload_n hx hb dX8_learns_58 rfl (lv_at hl 1 rfl) ?_
          refine lv_bipush (v := 10) hx hb dX8_learns_59 (by decide) ?_
          refine va_iald hx hb hK hP 0 0 rfl rfl (i := 10) (vp_in_iff.mpr (by decide)) dX8_learns_61 ?_
          refine lt_top (y := (f 10)) rfl ?_
          refine lv_iconst (v := 1) hx hb dX8_learns_62 (by decide) ?_
          refine lv_icmp_ne (tgt := 98) hx hb dX8_learns_63 (by decide) (fun c_63 => ?_) (fun c_63 => ?_)
          · have hs := hs.2 c_63
            exact W.vret hx hb hret (fun t ht hW => ⟨⟨((upd (upd f 7 ((f 7) + 1)) 7 (((f 7) + 1) - ((f 7) + 1) / 5 * 5))), rfl, (Eq.symm (Eq.trans (if_pos c_5) (Eq.trans (if_neg c_20) (Eq.trans (if_pos c_29) (Eq.trans (if_pos c_41) (Eq.trans (if_neg c_63) rfl)))))), by rw [ht]; exact hP, hD⟩, hS.F ht⟩) hS.2.2 dX8_learns_98
          · have hs := hs.1 c_63
            refine lv_aload_n hx hb dX8_learns_66 rfl (lv_at hl 1 rfl) ?_
            refine lv_bipush (v := 8) hx hb dX8_learns_67 (by decide) ?_
            refine va_iald hx hb hK hP 0 0 rfl rfl (i := 8) (vp_in_iff.mpr (by decide)) dX8_learns_69 ?_
            refine lt_top (y := (f 8)) rfl ?_
            refine lv_iload_n hx hb dX8_learns_70 rfl (lv_at hl 0 rfl) ?_
            refine lv_iadd hx hb dX8_learns_71 ?_
            refine lv_istore_n (lv' := [(3, .int ((f 8) + (-1))), (2, .int (-1)), (0, .ref b), (1, .int p1)]) hx hb dX8_learns_72 rfl hl (by decide) rfl (fun ls hl => ?_)
            refine lv_aload_n hx hb dX8_learns_73 rfl (lv_at hl 2 rfl) ?_
            refine lv_bipush (v := 8) hx hb dX8_learns_74 (by decide) ?_
            refine lv_iload_n hx hb dX8_learns_76 rfl (lv_at hl 0 rfl) ?_
            refine lv_iconst (v := 1) hx hb dX8_learns_77 (by decide) ?_
            refine lv_icmp_ge (tgt := 85) hx hb dX8_learns_78 (by decide) (fun c_78 => ?_) (fun c_78 => ?_)
            · have hs := hs.1 c_78
              refine lv_iload_n hx hb dX8_learns_85 rfl (lv_at hl 0 rfl) ?_
              refine lv_bipush (v := 20) hx hb dX8_learns_86 (by decide) ?_
              refine lv_icmp_le (tgt := 96) hx hb dX8_learns_88 (by decide) (fun c_88 => ?_) (fun c_88 => ?_)
              · have hs := hs.1 c_88
                refine lv_iload_n hx hb dX8_learns_96 rfl (lv_at hl 0 rfl) ?_
                refine va_iast hx hb hK hP hD hS 0 0 rfl rfl (i := 8) (x := ((f 8) + (-1))) (vp_in_iff.mpr (by decide)) dX8_learns_97 (fun H locs hP hD hS => ?_)
                have hP : va_P D vwCl (lt_Ro yI b 532 (upd (upd (upd f 7 ((f 7) + 1)) 7 (((f 7) + 1) - ((f 7) + 1) / 5 * 5)) 8 ((f 8) + (-1)))) H := hP
                have hD : va_D A (lt_Ro yI b 532 (upd (upd (upd f 7 ((f 7) + 1)) 7 (((f 7) + 1) - ((f 7) + 1) / 5 * 5)) 8 ((f 8) + (-1)))) := hD
                exact W.vret hx hb hret (fun t ht hW => ⟨⟨((upd (upd (upd f 7 ((f 7) + 1)) 7 (((f 7) + 1) - ((f 7) + 1) / 5 * 5)) 8 ((f 8) + (-1)))), rfl, (Eq.symm (Eq.trans (if_pos c_5) (Eq.trans (if_neg c_20) (Eq.trans (if_pos c_29) (Eq.trans (if_pos c_41) (Eq.trans (if_pos c_63) (Eq.trans (if_pos c_78) (Eq.trans (if_pos c_88) rfl)))))))), by rw [ht]; exact hP, hD⟩, hS.F ht⟩) hS.2.2 dX8_learns_98
              · have hs := hs.2 c_88
                refine lv_bipush (v := 20) hx hb dX8_learns_91 (by decide) ?_
                refine lv_goto (tgt := 97) hx hb dX8_learns_93 (by decide) ?_
                refine va_iast hx hb hK hP hD hS 0 0 rfl rfl (i := 8) (x := 20) (vp_in_iff.mpr (by decide)) dX8_learns_97 (fun H locs hP hD hS => ?_)
                have hP : va_P D vwCl (lt_Ro yI b 532 (upd (upd (upd f 7 ((f 7) + 1)) 7 (((f 7) + 1) - ((f 7) + 1) / 5 * 5)) 8 20)) H := hP
                have hD : va_D A (lt_Ro yI b 532 (upd (upd (upd f 7 ((f 7) + 1)) 7 (((f 7) + 1) - ((f 7) + 1) / 5 * 5)) 8 20)) := hD
                exact W.vret hx hb hret (fun t ht hW => ⟨⟨((upd (upd (upd f 7 ((f 7) + 1)) 7 (((f 7) + 1) - ((f 7) + 1) / 5 * 5)) 8 20)), rfl, (Eq.symm (Eq.trans (if_pos c_5) (Eq.trans (if_neg c_20) (Eq.trans (if_pos c_29) (Eq.trans (if_pos c_41) (Eq.trans (if_pos c_63) (Eq.trans (if_pos c_78) (Eq.trans (if_neg c_88) rfl)))))))), by rw [ht]; exact hP, hD⟩, hS.F ht⟩) hS.2.2 dX8_learns_98
            · have hs := hs.2 c_78
              refine lv_iconst (v := 1) hx hb dX8_learns_81 (by decide) ?_
              refine lv_goto (tgt := 97) hx hb dX8_learns_82 (by decide) ?_
              refine va_iast hx hb hK hP hD hS 0 0 rfl rfl (i := 8) (x := 1) (vp_in_iff.mpr (by decide)) dX8_learns_97 (fun H locs hP hD hS => ?_)
              have hP : va_P D vwCl (lt_Ro yI b 532 (upd (upd (upd f 7 ((f 7) + 1)) 7 (((f 7) + 1) - ((f 7) + 1) / 5 * 5)) 8 1)) H := hP
              have hD : va_D A (lt_Ro yI b 532 (upd (upd (upd f 7 ((f 7) + 1)) 7 (((f 7) + 1) - ((f 7) + 1) / 5 * 5)) 8 1)) := hD
              exact W.vret hx hb hret (fun t ht hW => ⟨⟨((upd (upd (upd f 7 ((f 7) + 1)) 7 (((f 7) + 1) - ((f 7) + 1) / 5 * 5)) 8 1)), rfl, (Eq.symm (Eq.trans (if_pos c_5) (Eq.trans (if_neg c_20) (Eq.trans (if_pos c_29) (Eq.trans (if_pos c_41) (Eq.trans (if_pos c_63) (Eq.trans (if_neg c_78) rfl))))))), by rw [ht]; exact hP, hD⟩, hS.F ht⟩) hS.2.2 dX8_learns_98
      · have hs := hs.2 c_29
        refine lv_iconst (v := 1) hx hb dX8_learns_32 (by decide) ?_
        refine lv_goto (tgt := 49) hx hb dX8_learns_33 (by decide) ?_
        refine lv_istore_n (lv' := [(2, .int 1), (0, .ref b), (1, .int p1)]) hx hb dX8_learns_49 rfl hl (by decide) rfl (fun ls hl => ?_)
        refine lv_aload_n hx hb dX8_learns_50 rfl (lv_at hl 1 rfl) ?_
        refine lv_bipush (v := 7) hx hb dX8_learns_51 (by decide) ?_
        refine lv_dup2_11 hx hb dX8_learns_53 rfl rfl ?_
        refine va_iald hx hb hK hP 0 0 rfl rfl (i := 7) (vp_in_iff.mpr (by decide)) dX8_learns_54 ?_
        refine lt_top (y := ((f 7) + 1)) rfl ?_
        refine lv_iconst (v := 5) hx hb dX8_learns_55 (by decide) ?_
        refine lv_irem hx hb dX8_learns_56 (by decide) ?_
        refine va_iast hx hb hK hP hD hS 0 0 rfl rfl (i := 7) (x := (((f 7) + 1) - ((f 7) + 1) / 5 * 5)) (vp_in_iff.mpr (by decide)) dX8_learns_57 (fun H locs hP hD hS => ?_)
        have hP : va_P D vwCl (lt_Ro yI b 532 (upd (upd f 7 ((f 7) + 1)) 7 (((f 7) + 1) - ((f 7) + 1) / 5 * 5))) H := hP
        have hD : va_D A (lt_Ro yI b 532 (upd (upd f 7 ((f 7) + 1)) 7 (((f 7) + 1) - ((f 7) + 1) / 5 * 5))) := hD
        refine lv_aload_n hx hb dX8_learns_58 rfl (lv_at hl 1 rfl) ?_
        refine lv_bipush (v := 10) hx hb dX8_learns_59 (by decide) ?_
        refine va_iald hx hb hK hP 0 0 rfl rfl (i := 10) (vp_in_iff.mpr (by decide)) dX8_learns_61 ?_
        refine lt_top (y := (f 10)) rfl ?_
        refine lv_iconst (v := 1) hx hb dX8_learns_62 (by decide) ?_
        refine lv_icmp_ne (tgt := 98) hx hb dX8_learns_63 (by decide) (fun c_63 => ?_) (fun c_63 => ?_)
        · have hs := hs.2 c_63
          exact W.vret hx hb hret (fun t ht hW => ⟨⟨((upd (upd f 7 ((f 7) + 1)) 7 (((f 7) + 1) - ((f 7) + 1) / 5 * 5))), rfl, (Eq.symm (Eq.trans (if_pos c_5) (Eq.trans (if_neg c_20) (Eq.trans (if_neg c_29) (Eq.trans (if_neg c_63) rfl))))), by rw [ht]; exact hP, hD⟩, hS.F ht⟩) hS.2.2 dX8_learns_98
        · have hs := hs.1 c_63
          refine lv_aload_n hx hb dX8_learns_66 rfl (lv_at hl 1 rfl) ?_
          refine lv_bipush (v := 8) hx hb dX8_learns_67 (by decide) ?_
          refine va_iald hx hb hK hP 0 0 rfl rfl (i := 8) (vp_in_iff.mpr (by decide)) dX8_learns_69 ?_
          refine lt_top (y := (f 8)) rfl ?_
          refine lv_iload_n hx hb dX8_learns_70 rfl (lv_at hl 0 rfl) ?_
          refine lv_iadd hx hb dX8_learns_71 ?_
          refine lv_istore_n (lv' := [(3, .int ((f 8) + 1)), (2, .int 1), (0, .ref b), (1, .int p1)]) hx hb dX8_learns_72 rfl hl (by decide) rfl (fun ls hl => ?_)
          refine lv_aload_n hx hb dX8_learns_73 rfl (lv_at hl 2 rfl) ?_
          refine lv_bipush (v := 8) hx hb dX8_learns_74 (by decide) ?_
          refine lv_iload_n hx hb dX8_learns_76 rfl (lv_at hl 0 rfl) ?_
          refine lv_iconst (v := 1) hx hb dX8_learns_77 (by decide) ?_
          refine lv_icmp_ge (tgt := 85) hx hb dX8_learns_78 (by decide) (fun c_78 => ?_) (fun c_78 => ?_)
          · have hs := hs.1 c_78
            refine lv_iload_n hx hb dX8_learns_85 rfl (lv_at hl 0 rfl) ?_
            refine lv_bipush (v := 20) hx hb dX8_learns_86 (by decide) ?_
            refine lv_icmp_le (tgt := 96) hx hb dX8_learns_88 (by decide) (fun c_88 => ?_) (fun c_88 => ?_)
            · have hs := hs.1 c_88
              refine lv_iload_n hx hb dX8_learns_96 rfl (lv_at hl 0 rfl) ?_
              refine va_iast hx hb hK hP hD hS 0 0 rfl rfl (i := 8) (x := ((f 8) + 1)) (vp_in_iff.mpr (by decide)) dX8_learns_97 (fun H locs hP hD hS => ?_)
              have hP : va_P D vwCl (lt_Ro yI b 532 (upd (upd (upd f 7 ((f 7) + 1)) 7 (((f 7) + 1) - ((f 7) + 1) / 5 * 5)) 8 ((f 8) + 1))) H := hP
              have hD : va_D A (lt_Ro yI b 532 (upd (upd (upd f 7 ((f 7) + 1)) 7 (((f 7) + 1) - ((f 7) + 1) / 5 * 5)) 8 ((f 8) + 1))) := hD
              exact W.vret hx hb hret (fun t ht hW => ⟨⟨((upd (upd (upd f 7 ((f 7) + 1)) 7 (((f 7) + 1) - ((f 7) + 1) / 5 * 5)) 8 ((f 8) + 1))), rfl, (Eq.symm (Eq.trans (if_pos c_5) (Eq.trans (if_neg c_20) (Eq.trans (if_neg c_29) (Eq.trans (if_pos c_63) (Eq.trans (if_pos c_78) (Eq.trans (if_pos c_88) rfl))))))), by rw [ht]; exact hP, hD⟩, hS.F ht⟩) hS.2.2 dX8_learns_98
            · have hs := hs.2 c_88
              refine lv_bipush (v := 20) hx hb dX8_learns_91 (by decide) ?_
              refine lv_goto (tgt := 97) hx hb dX8_learns_93 (by decide) ?_
              refine va_iast hx hb hK hP hD hS 0 0 rfl rfl (i := 8) (x := 20) (vp_in_iff.mpr (by decide)) dX8_learns_97 (fun H locs hP hD hS => ?_)
              have hP : va_P D vwCl (lt_Ro yI b 532 (upd (upd (upd f 7 ((f 7) + 1)) 7 (((f 7) + 1) - ((f 7) + 1) / 5 * 5)) 8 20)) H := hP
              have hD : va_D A (lt_Ro yI b 532 (upd (upd (upd f 7 ((f 7) + 1)) 7 (((f 7) + 1) - ((f 7) + 1) / 5 * 5)) 8 20)) := hD
              exact W.vret hx hb hret (fun t ht hW => ⟨⟨((upd (upd (upd f 7 ((f 7) + 1)) 7 (((f 7) + 1) - ((f 7) + 1) / 5 * 5)) 8 20)), rfl, (Eq.symm (Eq.trans (if_pos c_5) (Eq.trans (if_neg c_20) (Eq.trans (if_neg c_29) (Eq.trans (if_pos c_63) (Eq.trans (if_pos c_78) (Eq.trans (if_neg c_88) rfl))))))), by rw [ht]; exact hP, hD⟩, hS.F ht⟩) hS.2.2 dX8_learns_98
          · have hs := hs.2 c_78
            refine lv_iconst (v := 1) hx hb dX8_learns_81 (by decide) ?_
            refine lv_goto (tgt := 97) hx hb dX8_learns_82 (by decide) ?_
            refine va_iast hx hb hK hP hD hS 0 0 rfl rfl (i := 8) (x := 1) (vp_in_iff.mpr (by decide)) dX8_learns_97 (fun H locs hP hD hS => ?_)
            have hP : va_P D vwCl (lt_Ro yI b 532 (upd (upd (upd f 7 ((f 7) + 1)) 7 (((f 7) + 1) - ((f 7) + 1) / 5 * 5)) 8 1)) H := hP
            have hD : va_D A (lt_Ro yI b 532 (upd (upd (upd f 7 ((f 7) + 1)) 7 (((f 7) + 1) - ((f 7) + 1) / 5 * 5)) 8 1)) := hD
            exact W.vret hx hb hret (fun t ht hW => ⟨⟨((upd (upd (upd f 7 ((f 7) + 1)) 7 (((f 7) + 1) - ((f 7) + 1) / 5 * 5)) 8 1)), rfl, (Eq.symm (Eq.trans (if_pos c_5) (Eq.trans (if_neg c_20) (Eq.trans (if_neg c_29) (Eq.trans (if_pos c_63) (Eq.trans (if_neg c_78) rfl)))))), by rw [ht]; exact hP, hD⟩, hS.F ht⟩) hS.2.2 dX8_learns_98
    · have hs := hs.1 c_20
      refine lv_iconst (v := 2) hx hb dX8_learns_23 (by decide) ?_
      refine lv_goto (tgt := 49) hx hb dX8_learns_24 (by decide) ?_
      refine lv_istore_n (lv' := [(2, .int 2), (0, .ref b), (1, .int p1)]) hx hb dX8_learns_49 rfl hl (by decide) rfl (fun ls hl => ?_)
      refine lv_aload_n hx hb dX8_learns_50 rfl (lv_at hl 1 rfl) ?_
      refine lv_bipush (v := 7) hx hb dX8_learns_51 (by decide) ?_
      refine lv_dup2_11 hx hb dX8_learns_53 rfl rfl ?_
      refine va_iald hx hb hK hP 0 0 rfl rfl (i := 7) (vp_in_iff.mpr (by decide)) dX8_learns_54 ?_
      refine lt_top (y := ((f 7) + 1)) rfl ?_
      refine lv_iconst (v := 5) hx hb dX8_learns_55 (by decide) ?_
      refine lv_irem hx hb dX8_learns_56 (by decide) ?_
      refine va_iast hx hb hK hP hD hS 0 0 rfl rfl (i := 7) (x := (((f 7) + 1) - ((f 7) + 1) / 5 * 5)) (vp_in_iff.mpr (by decide)) dX8_learns_57 (fun H locs hP hD hS => ?_)
      have hP : va_P D vwCl (lt_Ro yI b 532 (upd (upd f 7 ((f 7) + 1)) 7 (((f 7) + 1) - ((f 7) + 1) / 5 * 5))) H := hP
      have hD : va_D A (lt_Ro yI b 532 (upd (upd f 7 ((f 7) + 1)) 7 (((f 7) + 1) - ((f 7) + 1) / 5 * 5))) := hD
      refine lv_aload_n hx hb dX8_learns_58 rfl (lv_at hl 1 rfl) ?_
      refine lv_bipush (v := 10) hx hb dX8_learns_59 (by decide) ?_
      refine va_iald hx hb hK hP 0 0 rfl rfl (i := 10) (vp_in_iff.mpr (by decide)) dX8_learns_61 ?_
      refine lt_top (y := (f 10)) rfl ?_
      refine lv_iconst (v := 1) hx hb dX8_learns_62 (by decide) ?_
      refine lv_icmp_ne (tgt := 98) hx hb dX8_learns_63 (by decide) (fun c_63 => ?_) (fun c_63 => ?_)
      · have hs := hs.2 c_63
        exact W.vret hx hb hret (fun t ht hW => ⟨⟨((upd (upd f 7 ((f 7) + 1)) 7 (((f 7) + 1) - ((f 7) + 1) / 5 * 5))), rfl, (Eq.symm (Eq.trans (if_pos c_5) (Eq.trans (if_pos c_20) (Eq.trans (if_neg c_63) rfl)))), by rw [ht]; exact hP, hD⟩, hS.F ht⟩) hS.2.2 dX8_learns_98
      · have hs := hs.1 c_63
        refine lv_aload_n hx hb dX8_learns_66 rfl (lv_at hl 1 rfl) ?_
        refine lv_bipush (v := 8) hx hb dX8_learns_67 (by decide) ?_
        refine va_iald hx hb hK hP 0 0 rfl rfl (i := 8) (vp_in_iff.mpr (by decide)) dX8_learns_69 ?_
        refine lt_top (y := (f 8)) rfl ?_
        refine lv_iload_n hx hb dX8_learns_70 rfl (lv_at hl 0 rfl) ?_
        refine lv_iadd hx hb dX8_learns_71 ?_
        refine lv_istore_n (lv' := [(3, .int ((f 8) + 2)), (2, .int 2), (0, .ref b), (1, .int p1)]) hx hb dX8_learns_72 rfl hl (by decide) rfl (fun ls hl => ?_)
        refine lv_aload_n hx hb dX8_learns_73 rfl (lv_at hl 2 rfl) ?_
        refine lv_bipush (v := 8) hx hb dX8_learns_74 (by decide) ?_
        refine lv_iload_n hx hb dX8_learns_76 rfl (lv_at hl 0 rfl) ?_
        refine lv_iconst (v := 1) hx hb dX8_learns_77 (by decide) ?_
        refine lv_icmp_ge (tgt := 85) hx hb dX8_learns_78 (by decide) (fun c_78 => ?_) (fun c_78 => ?_)
        · have hs := hs.1 c_78
          refine lv_iload_n hx hb dX8_learns_85 rfl (lv_at hl 0 rfl) ?_
          refine lv_bipush (v := 20) hx hb dX8_learns_86 (by decide) ?_
          refine lv_icmp_le (tgt := 96) hx hb dX8_learns_88 (by decide) (fun c_88 => ?_) (fun c_88 => ?_)
          · have hs := hs.1 c_88
            refine lv_iload_n hx hb dX8_learns_96 rfl (lv_at hl 0 rfl) ?_
            refine va_iast hx hb hK hP hD hS 0 0 rfl rfl (i := 8) (x := ((f 8) + 2)) (vp_in_iff.mpr (by decide)) dX8_learns_97 (fun H locs hP hD hS => ?_)
            have hP : va_P D vwCl (lt_Ro yI b 532 (upd (upd (upd f 7 ((f 7) + 1)) 7 (((f 7) + 1) - ((f 7) + 1) / 5 * 5)) 8 ((f 8) + 2))) H := hP
            have hD : va_D A (lt_Ro yI b 532 (upd (upd (upd f 7 ((f 7) + 1)) 7 (((f 7) + 1) - ((f 7) + 1) / 5 * 5)) 8 ((f 8) + 2))) := hD
            exact W.vret hx hb hret (fun t ht hW => ⟨⟨((upd (upd (upd f 7 ((f 7) + 1)) 7 (((f 7) + 1) - ((f 7) + 1) / 5 * 5)) 8 ((f 8) + 2))), rfl, (Eq.symm (Eq.trans (if_pos c_5) (Eq.trans (if_pos c_20) (Eq.trans (if_pos c_63) (Eq.trans (if_pos c_78) (Eq.trans (if_pos c_88) rfl)))))), by rw [ht]; exact hP, hD⟩, hS.F ht⟩) hS.2.2 dX8_learns_98
          · have hs := hs.2 c_88
            refine lv_bipush (v := 20) hx hb dX8_learns_91 (by decide) ?_
            refine lv_goto (tgt := 97) hx hb dX8_learns_93 (by decide) ?_
            refine va_iast hx hb hK hP hD hS 0 0 rfl rfl (i := 8) (x := 20) (vp_in_iff.mpr (by decide)) dX8_learns_97 (fun H locs hP hD hS => ?_)
            have hP : va_P D vwCl (lt_Ro yI b 532 (upd (upd (upd f 7 ((f 7) + 1)) 7 (((f 7) + 1) - ((f 7) + 1) / 5 * 5)) 8 20)) H := hP
            have hD : va_D A (lt_Ro yI b 532 (upd (upd (upd f 7 ((f 7) + 1)) 7 (((f 7) + 1) - ((f 7) + 1) / 5 * 5)) 8 20)) := hD
            exact W.vret hx hb hret (fun t ht hW => ⟨⟨((upd (upd (upd f 7 ((f 7) + 1)) 7 (((f 7) + 1) - ((f 7) + 1) / 5 * 5)) 8 20)), rfl, (Eq.symm (Eq.trans (if_pos c_5) (Eq.trans (if_pos c_20) (Eq.trans (if_pos c_63) (Eq.trans (if_pos c_78) (Eq.trans (if_neg c_88) rfl)))))), by rw [ht]; exact hP, hD⟩, hS.F ht⟩) hS.2.2 dX8_learns_98
        · have hs := hs.2 c_78
          refine lv_iconst (v := 1) hx hb dX8_learns_81 (by decide) ?_
          refine lv_goto (tgt := 97) hx hb dX8_learns_82 (by decide) ?_
          refine va_iast hx hb hK hP hD hS 0 0 rfl rfl (i := 8) (x := 1) (vp_in_iff.mpr (by decide)) dX8_learns_97 (fun H locs hP hD hS => ?_)
          have hP : va_P D vwCl (lt_Ro yI b 532 (upd (upd (upd f 7 ((f 7) + 1)) 7 (((f 7) + 1) - ((f 7) + 1) / 5 * 5)) 8 1)) H := hP
          have hD : va_D A (lt_Ro yI b 532 (upd (upd (upd f 7 ((f 7) + 1)) 7 (((f 7) + 1) - ((f 7) + 1) / 5 * 5)) 8 1)) := hD
          exact W.vret hx hb hret (fun t ht hW => ⟨⟨((upd (upd (upd f 7 ((f 7) + 1)) 7 (((f 7) + 1) - ((f 7) + 1) / 5 * 5)) 8 1)), rfl, (Eq.symm (Eq.trans (if_pos c_5) (Eq.trans (if_pos c_20) (Eq.trans (if_pos c_63) (Eq.trans (if_neg c_78) rfl))))), by rw [ht]; exact hP, hD⟩, hS.F ht⟩) hS.2.2 dX8_learns_98

def X8_turns (f : Nat → Int32) : Int32 × ((Nat → Int32)) :=
  let r_5 := X8_wouldTurn f (f 8)
  if r_5 ≤ 1 then
    if r_5 = 0 then
      let x_57 := X8_learns (upd (upd (upd (upd f 1 ((f 1) + r_5)) 4 ((f 4) + 1)) 5 ((f 5) + 0)) 6 ((f 6) + 1)) r_5
      (r_5, (x_57))
    else
      let x_57 := X8_learns (upd (upd (upd (upd f 1 ((f 1) + r_5)) 4 ((f 4) + 1)) 5 ((f 5) + 0)) 6 ((f 6) + 0)) r_5
      (r_5, (x_57))
  else
    if r_5 = 0 then
      let x_57 := X8_learns (upd (upd (upd (upd f 1 ((f 1) + r_5)) 4 ((f 4) + 1)) 5 ((f 5) + 1)) 6 ((f 6) + 1)) r_5
      (r_5, (x_57))
    else
      let x_57 := X8_learns (upd (upd (upd (upd f 1 ((f 1) + r_5)) 4 ((f 4) + 1)) 5 ((f 5) + 1)) 6 ((f 6) + 0)) r_5
      (r_5, (x_57))
def S_X8_turns (f : Nat → Int32) : Prop :=
  (S_X8_wouldTurn f (f 8)) ∧
  ∀ r_5, r_5 = X8_wouldTurn f (f 8) →
  (r_5 ≤ 1 →
    (r_5 = 0 →
      (S_X8_learns (upd (upd (upd (upd f 1 ((f 1) + r_5)) 4 ((f 4) + 1)) 5 ((f 5) + 0)) 6 ((f 6) + 1)) r_5) ∧
      ∀ x_57, x_57 = X8_learns (upd (upd (upd (upd f 1 ((f 1) + r_5)) 4 ((f 4) + 1)) 5 ((f 5) + 0)) 6 ((f 6) + 1)) r_5 →
      True) ∧
    (¬ (r_5 = 0) →
      (S_X8_learns (upd (upd (upd (upd f 1 ((f 1) + r_5)) 4 ((f 4) + 1)) 5 ((f 5) + 0)) 6 ((f 6) + 0)) r_5) ∧
      ∀ x_57, x_57 = X8_learns (upd (upd (upd (upd f 1 ((f 1) + r_5)) 4 ((f 4) + 1)) 5 ((f 5) + 0)) 6 ((f 6) + 0)) r_5 →
      True)) ∧
  (¬ (r_5 ≤ 1) →
    (r_5 = 0 →
      (S_X8_learns (upd (upd (upd (upd f 1 ((f 1) + r_5)) 4 ((f 4) + 1)) 5 ((f 5) + 1)) 6 ((f 6) + 1)) r_5) ∧
      ∀ x_57, x_57 = X8_learns (upd (upd (upd (upd f 1 ((f 1) + r_5)) 4 ((f 4) + 1)) 5 ((f 5) + 1)) 6 ((f 6) + 1)) r_5 →
      True) ∧
    (¬ (r_5 = 0) →
      (S_X8_learns (upd (upd (upd (upd f 1 ((f 1) + r_5)) 4 ((f 4) + 1)) 5 ((f 5) + 1)) 6 ((f 6) + 0)) r_5) ∧
      ∀ x_57, x_57 = X8_learns (upd (upd (upd (upd f 1 ((f 1) + r_5)) 4 ((f 4) + 1)) 5 ((f 5) + 1)) 6 ((f 6) + 0)) r_5 →
      True))
set_option maxHeartbeats 4000000 in
set_option maxRecDepth 100000 in
theorem c_X8_turns (l : Launch) (D : va_G) (yI yC yO : ClassId) (b : Nat) (f : Nat → Int32) (sz : Nat) (hs : S_X8_turns f) : Met l yX8_turns wsX8_turns ({ frames := 1, cells := 0, slots := 0, locals := 30 }) (va_Pc [.ref b] (lt_M D yI yC yO (lt_Ro yI b 532 f) sz)) (lt_Qi D (X8_turns f) (fun u => lt_Ro yI b 532 u) (va_A (lt_Ro yI b 532 f) sz)) 0 0 (va_A (lt_Ro yI b 532 f) sz) := by
  refine Met.ofW (cc := cX8_turns) (maxL := 2) (ret := (some .int)) (by decide) rfl ?_
  intro p e s m args below meth c s₁ B0 hml hv
  obtain ⟨rfl, hsz, hP, hK0, hD0⟩ := hv
  have hx := B0.exec
  have hb := B0.bytes
  have hret := B0.returns
  have hts := atoms_spec (ws := wsX8_turns) B0.pre
  have hown : s.vm.findClass RX8 = some m.cls := findClass_of_methodNamed B0.named
  have hlocks := B0.notSynchronized
  have hK := hK0.1
  have hN := hK0.2
  subst hsz
  have hD := hD0.self (sz := s.heap.size)
  generalize hAe : va_A (lt_Ro yI b 532 f) s.heap.size = A at hD ⊢
  have hA : ∀ q : Nat, s.heap.size ≤ q → A q := fun q h => by rw [← hAe]; exact Or.inr h
  have hS : va_S A s.heap s.heap [] := va_S.rf
  have hP : va_P D vwCl (lt_Ro yI b 532 f) s.heap := hP
  have hD : va_D A (lt_Ro yI b 532 f) := hD
  have hl := lv_entry ([.ref b]) (n := 2) (Nat.le_of_ble_eq_true rfl)
  rw [lg_entry_eq]
  generalize (lg_sl ([.ref b]) ++ List.replicate (2 - (lg_sl ([.ref b])).length) Slot.unset).toArray = ls at hl ⊢
  have hl : lv_has ls 2 [(0, .ref b)] := hl
  refine lv_aload_n hx hb dX8_turns_0 rfl (lv_at hl 0 rfl) ?_
  refine lv_aload_n hx hb dX8_turns_1 rfl (lv_at hl 0 rfl) ?_
  refine lv_bipush (v := 8) hx hb dX8_turns_2 (by decide) ?_
  refine va_iald hx hb hK hP 0 0 rfl rfl (i := 8) (vp_in_iff.mpr (by decide)) dX8_turns_4 ?_
  refine lt_top (y := (f 8)) rfl ?_
  have ho_5 := hs.1; have hs := hs.2
  have hPc := hP.sub (ws' := lt_Ro yI b 532 f) [0] rfl
  refine lt_cR (va_runS (As := [.ref b, .int (f 8)]) (rest := []) ⟨hx, hb, hml, hown, hts⟩ (c_X8_wouldTurn l D yI yC yO b f (f 8) ho_5) (va_cwS 2 hts gX8_turns_X8_wouldTurn rfl rfl rfl (by decide +kernel) ⟨Nat.le_of_ble_eq_true rfl, Nat.le_of_ble_eq_true rfl⟩) (lt_pS hK0 hPc) rfl rfl hl.1 rfl (lv_room (Nat.le_of_ble_eq_true rfl)) dX8_turns_5 ⟨Nat.zero_le _, Nat.zero_le _⟩) (fun r_5 e_r_5 => ?_)
  have hs := hs r_5 e_r_5
  refine lv_istore_n (lv' := [(1, .int r_5), (0, .ref b)]) hx hb dX8_turns_8 rfl hl (by decide) rfl (fun ls hl => ?_)
  refine lv_aload_n hx hb dX8_turns_9 rfl (lv_at hl 1 rfl) ?_
  refine lv_iconst (v := 1) hx hb dX8_turns_10 (by decide) ?_
  refine lv_dup2_11 hx hb dX8_turns_11 rfl rfl ?_
  refine va_iald hx hb hK hP 0 0 rfl rfl (i := 1) (vp_in_iff.mpr (by decide)) dX8_turns_12 ?_
  refine lt_top (y := (f 1)) rfl ?_
  refine lv_iload_n hx hb dX8_turns_13 rfl (lv_at hl 0 rfl) ?_
  refine lv_iadd hx hb dX8_turns_14 ?_
  refine va_iast hx hb hK hP hD hS 0 0 rfl rfl (i := 1) (x := ((f 1) + r_5)) (vp_in_iff.mpr (by decide)) dX8_turns_15 (fun H locs hP hD hS => ?_)
  have hP : va_P D vwCl (lt_Ro yI b 532 (upd f 1 ((f 1) + r_5))) H := hP
  have hD : va_D A (lt_Ro yI b 532 (upd f 1 ((f 1) + r_5))) := hD
  refine lv_aload_n hx hb dX8_turns_16 rfl (lv_at hl 1 rfl) ?_
  refine lv_iconst (v := 4) hx hb dX8_turns_17 (by decide) ?_
  refine lv_dup2_11 hx hb dX8_turns_18 rfl rfl ?_
  refine va_iald hx hb hK hP 0 0 rfl rfl (i := 4) (vp_in_iff.mpr (by decide)) dX8_turns_19 ?_
  refine lt_top (y := (f 4)) rfl ?_
  refine lv_iconst (v := 1) hx hb dX8_turns_20 (by decide) ?_
  refine lv_iadd hx hb dX8_turns_21 ?_
  refine va_iast hx hb hK hP hD hS 0 0 rfl rfl (i := 4) (x := ((f 4) + 1)) (vp_in_iff.mpr (by decide)) dX8_turns_22 (fun H locs hP hD hS => ?_)
  have hP : va_P D vwCl (lt_Ro yI b 532 (upd (upd f 1 ((f 1) + r_5)) 4 ((f 4) + 1))) H := hP
  have hD : va_D A (lt_Ro yI b 532 (upd (upd f 1 ((f 1) + r_5)) 4 ((f 4) + 1))) := hD
  refine lv_aload_n hx hb dX8_turns_23 rfl (lv_at hl 1 rfl) ?_
  refine lv_iconst (v := 5) hx hb dX8_turns_24 (by decide) ?_
  refine lv_dup2_11 hx hb dX8_turns_25 rfl rfl ?_
  refine va_iald hx hb hK hP 0 0 rfl rfl (i := 5) (vp_in_iff.mpr (by decide)) dX8_turns_26 ?_
  refine lt_top (y := (f 5)) rfl ?_
  refine lv_iload_n hx hb dX8_turns_27 rfl (lv_at hl 0 rfl) ?_
  refine lv_iconst (v := 1) hx hb dX8_turns_28 (by decide) ?_
  refine lv_icmp_le (tgt := 36) hx hb dX8_turns_29 (by decide) (fun c_29 => ?_) (fun c_29 => ?_)
  · have hs := hs.1 c_29
    refine lv_iconst (v := 0) hx hb dX8_turns_36 (by decide) ?_
    refine lv_iadd hx hb dX8_turns_37 ?_
    refine va_iast hx hb hK hP hD hS 0 0 rfl rfl (i := 5) (x := ((f 5) + 0)) (vp_in_iff.mpr (by decide)) dX8_turns_38 (fun H locs hP hD hS => ?_)
    have hP : va_P D vwCl (lt_Ro yI b 532 (upd (upd (upd f 1 ((f 1) + r_5)) 4 ((f 4) + 1)) 5 ((f 5) + 0))) H := hP
    have hD : va_D A (lt_Ro yI b 532 (upd (upd (upd f 1 ((f 1) + r_5)) 4 ((f 4) + 1)) 5 ((f 5) + 0))) := hD
    refine lv_aload_n hx hb dX8_turns_39 rfl (lv_at hl 1 rfl) ?_
    refine lv_bipush (v := 6) hx hb dX8_turns_40 (by decide) ?_
    refine lv_dup2_11 hx hb dX8_turns_42 rfl rfl ?_
    refine va_iald hx hb hK hP 0 0 rfl rfl (i := 6) (vp_in_iff.mpr (by decide)) dX8_turns_43 ?_
    refine lt_top (y := (f 6)) rfl ?_
    refine lv_iload_n hx hb dX8_turns_44 rfl (lv_at hl 0 rfl) ?_
    refine lv_if_ne (tgt := 52) hx hb dX8_turns_45 (by decide) (fun c_45 => ?_) (fun c_45 => ?_)
    · have hs := hs.2 c_45
      refine lv_iconst (v := 0) hx hb dX8_turns_52 (by decide) ?_
      refine lv_iadd hx hb dX8_turns_53 ?_
      refine va_iast hx hb hK hP hD hS 0 0 rfl rfl (i := 6) (x := ((f 6) + 0)) (vp_in_iff.mpr (by decide)) dX8_turns_54 (fun H locs hP hD hS => ?_)
      have hP : va_P D vwCl (lt_Ro yI b 532 (upd (upd (upd (upd f 1 ((f 1) + r_5)) 4 ((f 4) + 1)) 5 ((f 5) + 0)) 6 ((f 6) + 0))) H := hP
      have hD : va_D A (lt_Ro yI b 532 (upd (upd (upd (upd f 1 ((f 1) + r_5)) 4 ((f 4) + 1)) 5 ((f 5) + 0)) 6 ((f 6) + 0))) := hD
      refine lv_aload_n hx hb dX8_turns_55 rfl (lv_at hl 1 rfl) ?_
      refine lv_iload_n hx hb dX8_turns_56 rfl (lv_at hl 0 rfl) ?_
      have ho_57 := hs.1; have hs := hs.2
      have hPc := hP.sub (ws' := lt_Ro yI b 532 (upd (upd (upd (upd f 1 ((f 1) + r_5)) 4 ((f 4) + 1)) 5 ((f 5) + 0)) 6 ((f 6) + 0))) [0] rfl
      have hDc := hD.sub (ws' := lt_Ro yI b 532 (upd (upd (upd (upd f 1 ((f 1) + r_5)) 4 ((f 4) + 1)) 5 ((f 5) + 0)) 6 ((f 6) + 0))) [0] (by decide) rfl
      refine lt_cWv (wc := lt_Ro yI b 532 (upd (upd (upd (upd f 1 ((f 1) + r_5)) 4 ((f 4) + 1)) 5 ((f 5) + 0)) 6 ((f 6) + 0))) (wr := []) (va_runS (As := [.ref b, .int r_5]) (rest := []) ⟨hx, hb, hml, hown, hts⟩ (c_X8_learns l D yI yC yO b (upd (upd (upd (upd f 1 ((f 1) + r_5)) 4 ((f 4) + 1)) 5 ((f 5) + 0)) 6 ((f 6) + 0)) r_5 _ ho_57) (va_cwS 2 hts gX8_turns_X8_learns rfl rfl rfl (by decide +kernel) ⟨Nat.le_of_ble_eq_true rfl, Nat.le_of_ble_eq_true rfl⟩) (lt_qS hK0 hPc hDc) rfl rfl hl.1 rfl (lv_room (Nat.le_of_ble_eq_true rfl)) dX8_turns_57 ⟨Nat.zero_le _, Nat.zero_le _⟩) hP hD hS hA [0] [] rfl rfl (by decide) (by decide) (fun x_57 e_x_57 H locs hP hD hS => ?_)
      have hP := hP.sub (ws' := lt_Ro yI b 532 x_57) [0] rfl
      have hD := hD.sub (ws' := lt_Ro yI b 532 x_57) [0] (by decide) rfl
      have hs := hs x_57 e_x_57
      refine lv_iload_n hx hb dX8_turns_60 rfl (lv_at hl 0 rfl) ?_
      exact W.iret (v := r_5) hx hb hret (fun t ht hW => ⟨⟨r_5, (x_57), rfl, (by subst e_x_57 e_r_5; exact (Eq.symm (Eq.trans (if_pos c_29) (Eq.trans (if_neg c_45) rfl)))), by rw [ht]; exact hP, hD⟩, hS.F ht⟩) hS.2.2 dX8_turns_61
    · have hs := hs.1 c_45
      refine lv_iconst (v := 1) hx hb dX8_turns_48 (by decide) ?_
      refine lv_goto (tgt := 53) hx hb dX8_turns_49 (by decide) ?_
      refine lv_iadd hx hb dX8_turns_53 ?_
      refine va_iast hx hb hK hP hD hS 0 0 rfl rfl (i := 6) (x := ((f 6) + 1)) (vp_in_iff.mpr (by decide)) dX8_turns_54 (fun H locs hP hD hS => ?_)
      have hP : va_P D vwCl (lt_Ro yI b 532 (upd (upd (upd (upd f 1 ((f 1) + r_5)) 4 ((f 4) + 1)) 5 ((f 5) + 0)) 6 ((f 6) + 1))) H := hP
      have hD : va_D A (lt_Ro yI b 532 (upd (upd (upd (upd f 1 ((f 1) + r_5)) 4 ((f 4) + 1)) 5 ((f 5) + 0)) 6 ((f 6) + 1))) := hD
      refine lv_aload_n hx hb dX8_turns_55 rfl (lv_at hl 1 rfl) ?_
      refine lv_iload_n hx hb dX8_turns_56 rfl (lv_at hl 0 rfl) ?_
      have ho_57 := hs.1; have hs := hs.2
      have hPc := hP.sub (ws' := lt_Ro yI b 532 (upd (upd (upd (upd f 1 ((f 1) + r_5)) 4 ((f 4) + 1)) 5 ((f 5) + 0)) 6 ((f 6) + 1))) [0] rfl
      have hDc := hD.sub (ws' := lt_Ro yI b 532 (upd (upd (upd (upd f 1 ((f 1) + r_5)) 4 ((f 4) + 1)) 5 ((f 5) + 0)) 6 ((f 6) + 1))) [0] (by decide) rfl
      refine lt_cWv (wc := lt_Ro yI b 532 (upd (upd (upd (upd f 1 ((f 1) + r_5)) 4 ((f 4) + 1)) 5 ((f 5) + 0)) 6 ((f 6) + 1))) (wr := []) (va_runS (As := [.ref b, .int r_5]) (rest := []) ⟨hx, hb, hml, hown, hts⟩ (c_X8_learns l D yI yC yO b (upd (upd (upd (upd f 1 ((f 1) + r_5)) 4 ((f 4) + 1)) 5 ((f 5) + 0)) 6 ((f 6) + 1)) r_5 _ ho_57) (va_cwS 2 hts gX8_turns_X8_learns rfl rfl rfl (by decide +kernel) ⟨Nat.le_of_ble_eq_true rfl, Nat.le_of_ble_eq_true rfl⟩) (lt_qS hK0 hPc hDc) rfl rfl hl.1 rfl (lv_room (Nat.le_of_ble_eq_true rfl)) dX8_turns_57 ⟨Nat.zero_le _, Nat.zero_le _⟩) hP hD hS hA [0] [] rfl rfl (by decide) (by decide) (fun x_57 e_x_57 H locs hP hD hS => ?_)
      have hP := hP.sub (ws' := lt_Ro yI b 532 x_57) [0] rfl
      have hD := hD.sub (ws' := lt_Ro yI b 532 x_57) [0] (by decide) rfl
      have hs := hs x_57 e_x_57
      refine lv_iload_n hx hb dX8_turns_60 rfl (lv_at hl 0 rfl) ?_
      exact W.iret (v := r_5) hx hb hret (fun t ht hW => ⟨⟨r_5, (x_57), rfl, (by subst e_x_57 e_r_5; exact (Eq.symm (Eq.trans (if_pos c_29) (Eq.trans (if_pos c_45) rfl)))), by rw [ht]; exact hP, hD⟩, hS.F ht⟩) hS.2.2 dX8_turns_61
  · have hs := hs.2 c_29
    refine lv_iconst (v := 1) hx hb dX8_turns_32 (by decide) ?_
    refine lv_goto (tgt := 37) hx hb dX8_turns_33 (by decide) ?_
    refine lv_iadd hx hb dX8_turns_37 ?_
    refine va_iast hx hb hK hP hD hS 0 0 rfl rfl (i := 5) (x := ((f 5) + 1)) (vp_in_iff.mpr (by decide)) dX8_turns_38 (fun H locs hP hD hS => ?_)
    have hP : va_P D vwCl (lt_Ro yI b 532 (upd (upd (upd f 1 ((f 1) + r_5)) 4 ((f 4) + 1)) 5 ((f 5) + 1))) H := hP
    have hD : va_D A (lt_Ro yI b 532 (upd (upd (upd f 1 ((f 1) + r_5)) 4 ((f 4) + 1)) 5 ((f 5) + 1))) := hD
    refine lv_aload_n hx hb dX8_turns_39 rfl (lv_at hl 1 rfl) ?_
    refine lv_bipush (v := 6) hx hb dX8_turns_40 (by decide) ?_
    refine lv_dup2_11 hx hb dX8_turns_42 rfl rfl ?_
    refine va_iald hx hb hK hP 0 0 rfl rfl (i := 6) (vp_in_iff.mpr (by decide)) dX8_turns_43 ?_
    refine lt_top (y := (f 6)) rfl ?_
    refine lv_iload_n hx hb dX8_turns_44 rfl (lv_at hl 0 rfl) ?_
    refine lv_if_ne (tgt := 52) hx hb dX8_turns_45 (by decide) (fun c_45 => ?_) (fun c_45 => ?_)
    · have hs := hs.2 c_45
      refine lv_iconst (v := 0) hx hb dX8_turns_52 (by decide) ?_
      refine lv_iadd hx hb dX8_turns_53 ?_
      refine va_iast hx hb hK hP hD hS 0 0 rfl rfl (i := 6) (x := ((f 6) + 0)) (vp_in_iff.mpr (by decide)) dX8_turns_54 (fun H locs hP hD hS => ?_)
      have hP : va_P D vwCl (lt_Ro yI b 532 (upd (upd (upd (upd f 1 ((f 1) + r_5)) 4 ((f 4) + 1)) 5 ((f 5) + 1)) 6 ((f 6) + 0))) H := hP
      have hD : va_D A (lt_Ro yI b 532 (upd (upd (upd (upd f 1 ((f 1) + r_5)) 4 ((f 4) + 1)) 5 ((f 5) + 1)) 6 ((f 6) + 0))) := hD
      refine lv_aload_n hx hb dX8_turns_55 rfl (lv_at hl 1 rfl) ?_
      refine lv_iload_n hx hb dX8_turns_56 rfl (lv_at hl 0 rfl) ?_
      have ho_57 := hs.1; have hs := hs.2
      have hPc := hP.sub (ws' := lt_Ro yI b 532 (upd (upd (upd (upd f 1 ((f 1) + r_5)) 4 ((f 4) + 1)) 5 ((f 5) + 1)) 6 ((f 6) + 0))) [0] rfl
      have hDc := hD.sub (ws' := lt_Ro yI b 532 (upd (upd (upd (upd f 1 ((f 1) + r_5)) 4 ((f 4) + 1)) 5 ((f 5) + 1)) 6 ((f 6) + 0))) [0] (by decide) rfl
      refine lt_cWv (wc := lt_Ro yI b 532 (upd (upd (upd (upd f 1 ((f 1) + r_5)) 4 ((f 4) + 1)) 5 ((f 5) + 1)) 6 ((f 6) + 0))) (wr := []) (va_runS (As := [.ref b, .int r_5]) (rest := []) ⟨hx, hb, hml, hown, hts⟩ (c_X8_learns l D yI yC yO b (upd (upd (upd (upd f 1 ((f 1) + r_5)) 4 ((f 4) + 1)) 5 ((f 5) + 1)) 6 ((f 6) + 0)) r_5 _ ho_57) (va_cwS 2 hts gX8_turns_X8_learns rfl rfl rfl (by decide +kernel) ⟨Nat.le_of_ble_eq_true rfl, Nat.le_of_ble_eq_true rfl⟩) (lt_qS hK0 hPc hDc) rfl rfl hl.1 rfl (lv_room (Nat.le_of_ble_eq_true rfl)) dX8_turns_57 ⟨Nat.zero_le _, Nat.zero_le _⟩) hP hD hS hA [0] [] rfl rfl (by decide) (by decide) (fun x_57 e_x_57 H locs hP hD hS => ?_)
      have hP := hP.sub (ws' := lt_Ro yI b 532 x_57) [0] rfl
      have hD := hD.sub (ws' := lt_Ro yI b 532 x_57) [0] (by decide) rfl
      have hs := hs x_57 e_x_57
      refine lv_iload_n hx hb dX8_turns_60 rfl (lv_at hl 0 rfl) ?_
      exact W.iret (v := r_5) hx hb hret (fun t ht hW => ⟨⟨r_5, (x_57), rfl, (by subst e_x_57 e_r_5; exact (Eq.symm (Eq.trans (if_neg c_29) (Eq.trans (if_neg c_45) rfl)))), by rw [ht]; exact hP, hD⟩, hS.F ht⟩) hS.2.2 dX8_turns_61
    · have hs := hs.1 c_45
      refine lv_iconst (v := 1) hx hb dX8_turns_48 (by decide) ?_
      refine lv_goto (tgt := 53) hx hb dX8_turns_49 (by decide) ?_
      refine lv_iadd hx hb dX8_turns_53 ?_
      refine va_iast hx hb hK hP hD hS 0 0 rfl rfl (i := 6) (x := ((f 6) + 1)) (vp_in_iff.mpr (by decide)) dX8_turns_54 (fun H locs hP hD hS => ?_)
      have hP : va_P D vwCl (lt_Ro yI b 532 (upd (upd (upd (upd f 1 ((f 1) + r_5)) 4 ((f 4) + 1)) 5 ((f 5) + 1)) 6 ((f 6) + 1))) H := hP
      have hD : va_D A (lt_Ro yI b 532 (upd (upd (upd (upd f 1 ((f 1) + r_5)) 4 ((f 4) + 1)) 5 ((f 5) + 1)) 6 ((f 6) + 1))) := hD
      refine lv_aload_n hx hb dX8_turns_55 rfl (lv_at hl 1 rfl) ?_
      refine lv_iload_n hx hb dX8_turns_56 rfl (lv_at hl 0 rfl) ?_
      have ho_57 := hs.1; have hs := hs.2
      have hPc := hP.sub (ws' := lt_Ro yI b 532 (upd (upd (upd (upd f 1 ((f 1) + r_5)) 4 ((f 4) + 1)) 5 ((f 5) + 1)) 6 ((f 6) + 1))) [0] rfl
      have hDc := hD.sub (ws' := lt_Ro yI b 532 (upd (upd (upd (upd f 1 ((f 1) + r_5)) 4 ((f 4) + 1)) 5 ((f 5) + 1)) 6 ((f 6) + 1))) [0] (by decide) rfl
      refine lt_cWv (wc := lt_Ro yI b 532 (upd (upd (upd (upd f 1 ((f 1) + r_5)) 4 ((f 4) + 1)) 5 ((f 5) + 1)) 6 ((f 6) + 1))) (wr := []) (va_runS (As := [.ref b, .int r_5]) (rest := []) ⟨hx, hb, hml, hown, hts⟩ (c_X8_learns l D yI yC yO b (upd (upd (upd (upd f 1 ((f 1) + r_5)) 4 ((f 4) + 1)) 5 ((f 5) + 1)) 6 ((f 6) + 1)) r_5 _ ho_57) (va_cwS 2 hts gX8_turns_X8_learns rfl rfl rfl (by decide +kernel) ⟨Nat.le_of_ble_eq_true rfl, Nat.le_of_ble_eq_true rfl⟩) (lt_qS hK0 hPc hDc) rfl rfl hl.1 rfl (lv_room (Nat.le_of_ble_eq_true rfl)) dX8_turns_57 ⟨Nat.zero_le _, Nat.zero_le _⟩) hP hD hS hA [0] [] rfl rfl (by decide) (by decide) (fun x_57 e_x_57 H locs hP hD hS => ?_)
      have hP := hP.sub (ws' := lt_Ro yI b 532 x_57) [0] rfl
      have hD := hD.sub (ws' := lt_Ro yI b 532 x_57) [0] (by decide) rfl
      have hs := hs x_57 e_x_57
      refine lv_iload_n hx hb dX8_turns_60 rfl (lv_at hl 0 rfl) ?_
      exact W.iret (v := r_5) hx hb hret (fun t ht hW => ⟨⟨r_5, (x_57), rfl, (by subst e_x_57 e_r_5; exact (Eq.symm (Eq.trans (if_neg c_29) (Eq.trans (if_pos c_45) rfl)))), by rw [ht]; exact hP, hD⟩, hS.F ht⟩) hS.2.2 dX8_turns_61

def X8_isRight (i : Nat → Int32) (a : Nat → Nat → Int32) : Int32 :=
  if ((a 0) 0) ≤ ((a 0) 1) then
    0
  else
    1
def S_X8_isRight (i : Nat → Int32) (a : Nat → Nat → Int32) : Prop :=
  (((a 0) 0) ≤ ((a 0) 1) →
    True) ∧
  (¬ (((a 0) 0) ≤ ((a 0) 1)) →
    True)
theorem iw_X8_isRight_8 : ∀ w ∈ wsX80, w ∈ wsX8_isRight := by decide +kernel
set_option maxHeartbeats 4000000 in
set_option maxRecDepth 100000 in
theorem c_X8_isRight (l : Launch) (D : va_G) (yI yC yO : ClassId) (M : Nat → Nat) (i : Nat → Int32) (a : Nat → Nat → Int32) (hs : S_X8_isRight i a) : Met l yX8_isRight wsX8_isRight ({ frames := 0, cells := 0, slots := 0, locals := 0 }) (va_Pc [.ref (M 0)] (lt_R D yI yC yO (lt_Md yI yC M i a))) (lt_Si (X8_isRight i a)) 0 0 (fun _ => False) := by
  refine Met.ofW (cc := cX8_isRight) (maxL := 1) (ret := (some .boolean)) (by decide) rfl ?_
  intro p e s m args below meth c s₁ B0 hml hv
  obtain ⟨rfl, hP, hK0⟩ := hv
  have hx := B0.exec
  have hb := B0.bytes
  have hret := B0.returns
  have hts := atoms_spec (ws := wsX8_isRight) B0.pre
  have hown : s.vm.findClass RX8 = some m.cls := findClass_of_methodNamed B0.named
  have hlocks := B0.notSynchronized
  have hK := hK0.1
  have hN := hK0.2
  have hP : va_P D vwCl (lt_Md yI yC M i a) s.heap := hP
  have hl := lv_entry ([.ref (M 0)]) (n := 1) (Nat.le_of_ble_eq_true rfl)
  rw [lg_entry_eq]
  generalize (lg_sl ([.ref (M 0)]) ++ List.replicate (1 - (lg_sl ([.ref (M 0)])).length) Slot.unset).toArray = ls at hl ⊢
  have hl : lv_has ls 1 [(0, .ref (M 0))] := hl
  refine lv_aload_n hx hb dX8_isRight_0 rfl (lv_at hl 0 rfl) ?_
  refine va_get (D := D) (ci := 8) (v := .ref (M 1)) (C := RX8) (T := TX8) (N := 13) hx hb hts iw_X8_isRight_8 hown hK hP 0 rfl rfl 0 (by decide) (hts (.fieldLink RX8 7 "LeafTurnerModel" "now" "[I") (by decide +kernel)) (fun _ h9 => h9) rfl dX8_isRight_1 ?_
  refine lv_iconst (v := 1) hx hb dX8_isRight_4 (by decide) ?_
  refine va_iald hx hb hK hP 1 0 rfl rfl (i := 1) (vp_in_iff.mpr (by decide)) dX8_isRight_5 ?_
  refine lt_top (y := ((a 0) 1)) rfl ?_
  refine lv_aload_n hx hb dX8_isRight_6 rfl (lv_at hl 0 rfl) ?_
  refine va_get (D := D) (ci := 8) (v := .ref (M 1)) (C := RX8) (T := TX8) (N := 13) hx hb hts iw_X8_isRight_8 hown hK hP 0 rfl rfl 0 (by decide) (hts (.fieldLink RX8 7 "LeafTurnerModel" "now" "[I") (by decide +kernel)) (fun _ h9 => h9) rfl dX8_isRight_7 ?_
  refine lv_iconst (v := 0) hx hb dX8_isRight_10 (by decide) ?_
  refine va_iald hx hb hK hP 1 0 rfl rfl (i := 0) (vp_in_iff.mpr (by decide)) dX8_isRight_11 ?_
  refine lt_top (y := ((a 0) 0)) rfl ?_
  refine lv_icmp_ge (tgt := 19) hx hb dX8_isRight_12 (by decide) (fun c_12 => ?_) (fun c_12 => ?_)
  · have hs := hs.1 c_12
    refine lv_iconst (v := 0) hx hb dX8_isRight_19 (by decide) ?_
    exact W.zret (v := 0) hx hb hret lt_z0 (fun t ht hW => ⟨0, rfl, (Eq.symm (Eq.trans (if_pos c_12) rfl)), ht⟩) (fun _ h => absurd h List.not_mem_nil) dX8_isRight_20
  · have hs := hs.2 c_12
    refine lv_iconst (v := 1) hx hb dX8_isRight_15 (by decide) ?_
    refine lv_goto (tgt := 20) hx hb dX8_isRight_16 (by decide) ?_
    exact W.zret (v := 1) hx hb hret lt_z1 (fun t ht hW => ⟨1, rfl, (Eq.symm (Eq.trans (if_neg c_12) rfl)), ht⟩) (fun _ h => absurd h List.not_mem_nil) dX8_isRight_20

def X8_isGood (f : Nat → Int32) (p1 : Int32) : Int32 :=
  if (f 9) ≤ p1 then
    1
  else
    if (2 * (f 9)) ≤ (f 0) then
      0
    else
      1
def S_X8_isGood (f : Nat → Int32) (p1 : Int32) : Prop :=
  ((f 9) ≤ p1 →
    True) ∧
  (¬ ((f 9) ≤ p1) →
    ((2 * (f 9)) ≤ (f 0) →
      True) ∧
    (¬ ((2 * (f 9)) ≤ (f 0)) →
      True))
set_option maxHeartbeats 4000000 in
set_option maxRecDepth 100000 in
theorem c_X8_isGood (l : Launch) (D : va_G) (yI yC yO : ClassId) (b : Nat) (f : Nat → Int32) (p1 : Int32) (hs : S_X8_isGood f p1) : Met l yX8_isGood wsX8_isGood ({ frames := 0, cells := 0, slots := 0, locals := 0 }) (va_Pc [.ref b, .int p1] (lt_R D yI yC yO (lt_Ro yI b 532 f))) (lt_Si (X8_isGood f p1)) 0 0 (fun _ => False) := by
  refine Met.ofW (cc := cX8_isGood) (maxL := 2) (ret := (some .boolean)) (by decide) rfl ?_
  intro p e s m args below meth c s₁ B0 hml hv
  obtain ⟨rfl, hP, hK0⟩ := hv
  have hx := B0.exec
  have hb := B0.bytes
  have hret := B0.returns
  have hts := atoms_spec (ws := wsX8_isGood) B0.pre
  have hown : s.vm.findClass RX8 = some m.cls := findClass_of_methodNamed B0.named
  have hlocks := B0.notSynchronized
  have hK := hK0.1
  have hN := hK0.2
  have hP : va_P D vwCl (lt_Ro yI b 532 f) s.heap := hP
  have hl := lv_entry ([.ref b, .int p1]) (n := 2) (Nat.le_of_ble_eq_true rfl)
  rw [lg_entry_eq]
  generalize (lg_sl ([.ref b, .int p1]) ++ List.replicate (2 - (lg_sl ([.ref b, .int p1])).length) Slot.unset).toArray = ls at hl ⊢
  have hl : lv_has ls 2 [(0, .ref b), (1, .int p1)] := hl
  refine lv_iload_n hx hb dX8_isGood_0 rfl (lv_at hl 1 rfl) ?_
  refine lv_aload_n hx hb dX8_isGood_1 rfl (lv_at hl 0 rfl) ?_
  refine lv_bipush (v := 9) hx hb dX8_isGood_2 (by decide) ?_
  refine va_iald hx hb hK hP 0 0 rfl rfl (i := 9) (vp_in_iff.mpr (by decide)) dX8_isGood_4 ?_
  refine lt_top (y := (f 9)) rfl ?_
  refine lv_icmp_ge (tgt := 20) hx hb dX8_isGood_5 (by decide) (fun c_5 => ?_) (fun c_5 => ?_)
  · have hs := hs.1 c_5
    refine lv_iconst (v := 1) hx hb dX8_isGood_20 (by decide) ?_
    refine lv_goto (tgt := 25) hx hb dX8_isGood_21 (by decide) ?_
    exact W.zret (v := 1) hx hb hret lt_z1 (fun t ht hW => ⟨1, rfl, (Eq.symm (Eq.trans (if_pos c_5) rfl)), ht⟩) (fun _ h => absurd h List.not_mem_nil) dX8_isGood_25
  · have hs := hs.2 c_5
    refine lv_aload_n hx hb dX8_isGood_8 rfl (lv_at hl 0 rfl) ?_
    refine lv_iconst (v := 0) hx hb dX8_isGood_9 (by decide) ?_
    refine va_iald hx hb hK hP 0 0 rfl rfl (i := 0) (vp_in_iff.mpr (by decide)) dX8_isGood_10 ?_
    refine lt_top (y := (f 0)) rfl ?_
    refine lv_iconst (v := 2) hx hb dX8_isGood_11 (by decide) ?_
    refine lv_aload_n hx hb dX8_isGood_12 rfl (lv_at hl 0 rfl) ?_
    refine lv_bipush (v := 9) hx hb dX8_isGood_13 (by decide) ?_
    refine va_iald hx hb hK hP 0 0 rfl rfl (i := 9) (vp_in_iff.mpr (by decide)) dX8_isGood_15 ?_
    refine lt_top (y := (f 9)) rfl ?_
    refine lv_imul hx hb dX8_isGood_16 ?_
    refine lv_icmp_ge (tgt := 24) hx hb dX8_isGood_17 (by decide) (fun c_17 => ?_) (fun c_17 => ?_)
    · have hs := hs.1 c_17
      refine lv_iconst (v := 0) hx hb dX8_isGood_24 (by decide) ?_
      exact W.zret (v := 0) hx hb hret lt_z0 (fun t ht hW => ⟨0, rfl, (Eq.symm (Eq.trans (if_neg c_5) (Eq.trans (if_pos c_17) rfl))), ht⟩) (fun _ h => absurd h List.not_mem_nil) dX8_isGood_25
    · have hs := hs.2 c_17
      refine lv_iconst (v := 1) hx hb dX8_isGood_20 (by decide) ?_
      refine lv_goto (tgt := 25) hx hb dX8_isGood_21 (by decide) ?_
      exact W.zret (v := 1) hx hb hret lt_z1 (fun t ht hW => ⟨1, rfl, (Eq.symm (Eq.trans (if_neg c_5) (Eq.trans (if_neg c_17) rfl))), ht⟩) (fun _ h => absurd h List.not_mem_nil) dX8_isGood_25

def X8_openOn (f : Nat → Int32) (p1 : Int32) : Int32 :=
  if p1 = 0 then
    if (f 1) = 0 then
      (-5)
    else
      ((2 * (f 1)) - 1)
  else
    if (f 1) = (f 0) then
      (-5)
    else
      (2 * (f 1))
def S_X8_openOn (f : Nat → Int32) (p1 : Int32) : Prop :=
  (p1 = 0 →
    ((f 1) = 0 →
      True) ∧
    (¬ ((f 1) = 0) →
      True)) ∧
  (¬ (p1 = 0) →
    ((f 1) = (f 0) →
      True) ∧
    (¬ ((f 1) = (f 0)) →
      True))
set_option maxHeartbeats 4000000 in
set_option maxRecDepth 100000 in
theorem c_X8_openOn (l : Launch) (D : va_G) (yI yC yO : ClassId) (b : Nat) (f : Nat → Int32) (p1 : Int32) (hs : S_X8_openOn f p1) : Met l yX8_openOn wsX8_openOn ({ frames := 0, cells := 0, slots := 0, locals := 0 }) (va_Pc [.ref b, .int p1] (lt_R D yI yC yO (lt_Ro yI b 532 f))) (lt_Si (X8_openOn f p1)) 0 0 (fun _ => False) := by
  refine Met.ofW (cc := cX8_openOn) (maxL := 2) (ret := (some .int)) (by decide) rfl ?_
  intro p e s m args below meth c s₁ B0 hml hv
  obtain ⟨rfl, hP, hK0⟩ := hv
  have hx := B0.exec
  have hb := B0.bytes
  have hret := B0.returns
  have hts := atoms_spec (ws := wsX8_openOn) B0.pre
  have hown : s.vm.findClass RX8 = some m.cls := findClass_of_methodNamed B0.named
  have hlocks := B0.notSynchronized
  have hK := hK0.1
  have hN := hK0.2
  have hP : va_P D vwCl (lt_Ro yI b 532 f) s.heap := hP
  have hl := lv_entry ([.ref b, .int p1]) (n := 2) (Nat.le_of_ble_eq_true rfl)
  rw [lg_entry_eq]
  generalize (lg_sl ([.ref b, .int p1]) ++ List.replicate (2 - (lg_sl ([.ref b, .int p1])).length) Slot.unset).toArray = ls at hl ⊢
  have hl : lv_has ls 2 [(0, .ref b), (1, .int p1)] := hl
  refine lv_iload_n hx hb dX8_openOn_0 rfl (lv_at hl 1 rfl) ?_
  refine lv_if_ne (tgt := 25) hx hb dX8_openOn_1 (by decide) (fun c_1 => ?_) (fun c_1 => ?_)
  · have hs := hs.2 c_1
    refine lv_aload_n hx hb dX8_openOn_25 rfl (lv_at hl 0 rfl) ?_
    refine lv_iconst (v := 1) hx hb dX8_openOn_26 (by decide) ?_
    refine va_iald hx hb hK hP 0 0 rfl rfl (i := 1) (vp_in_iff.mpr (by decide)) dX8_openOn_27 ?_
    refine lt_top (y := (f 1)) rfl ?_
    refine lv_aload_n hx hb dX8_openOn_28 rfl (lv_at hl 0 rfl) ?_
    refine lv_iconst (v := 0) hx hb dX8_openOn_29 (by decide) ?_
    refine va_iald hx hb hK hP 0 0 rfl rfl (i := 0) (vp_in_iff.mpr (by decide)) dX8_openOn_30 ?_
    refine lt_top (y := (f 0)) rfl ?_
    refine lv_icmp_ne (tgt := 39) hx hb dX8_openOn_31 (by decide) (fun c_31 => ?_) (fun c_31 => ?_)
    · have hs := hs.2 c_31
      refine lv_iconst (v := 2) hx hb dX8_openOn_39 (by decide) ?_
      refine lv_aload_n hx hb dX8_openOn_40 rfl (lv_at hl 0 rfl) ?_
      refine lv_iconst (v := 1) hx hb dX8_openOn_41 (by decide) ?_
      refine va_iald hx hb hK hP 0 0 rfl rfl (i := 1) (vp_in_iff.mpr (by decide)) dX8_openOn_42 ?_
      refine lt_top (y := (f 1)) rfl ?_
      refine lv_imul hx hb dX8_openOn_43 ?_
      exact W.iret (v := (2 * (f 1))) hx hb hret (fun t ht hW => ⟨(2 * (f 1)), rfl, (Eq.symm (Eq.trans (if_neg c_1) (Eq.trans (if_neg c_31) rfl))), ht⟩) (fun _ h => absurd h List.not_mem_nil) dX8_openOn_44
    · have hs := hs.1 c_31
      refine lv_bipush (v := (-5)) hx hb dX8_openOn_34 (by decide) ?_
      refine lv_goto (tgt := 44) hx hb dX8_openOn_36 (by decide) ?_
      exact W.iret (v := (-5)) hx hb hret (fun t ht hW => ⟨(-5), rfl, (Eq.symm (Eq.trans (if_neg c_1) (Eq.trans (if_pos c_31) rfl))), ht⟩) (fun _ h => absurd h List.not_mem_nil) dX8_openOn_44
  · have hs := hs.1 c_1
    refine lv_aload_n hx hb dX8_openOn_4 rfl (lv_at hl 0 rfl) ?_
    refine lv_iconst (v := 1) hx hb dX8_openOn_5 (by decide) ?_
    refine va_iald hx hb hK hP 0 0 rfl rfl (i := 1) (vp_in_iff.mpr (by decide)) dX8_openOn_6 ?_
    refine lt_top (y := (f 1)) rfl ?_
    refine lv_if_ne (tgt := 15) hx hb dX8_openOn_7 (by decide) (fun c_7 => ?_) (fun c_7 => ?_)
    · have hs := hs.2 c_7
      refine lv_iconst (v := 2) hx hb dX8_openOn_15 (by decide) ?_
      refine lv_aload_n hx hb dX8_openOn_16 rfl (lv_at hl 0 rfl) ?_
      refine lv_iconst (v := 1) hx hb dX8_openOn_17 (by decide) ?_
      refine va_iald hx hb hK hP 0 0 rfl rfl (i := 1) (vp_in_iff.mpr (by decide)) dX8_openOn_18 ?_
      refine lt_top (y := (f 1)) rfl ?_
      refine lv_imul hx hb dX8_openOn_19 ?_
      refine lv_iconst (v := 1) hx hb dX8_openOn_20 (by decide) ?_
      refine lv_isub hx hb dX8_openOn_21 ?_
      refine lv_goto (tgt := 44) hx hb dX8_openOn_22 (by decide) ?_
      exact W.iret (v := ((2 * (f 1)) - 1)) hx hb hret (fun t ht hW => ⟨((2 * (f 1)) - 1), rfl, (Eq.symm (Eq.trans (if_pos c_1) (Eq.trans (if_neg c_7) rfl))), ht⟩) (fun _ h => absurd h List.not_mem_nil) dX8_openOn_44
    · have hs := hs.1 c_7
      refine lv_bipush (v := (-5)) hx hb dX8_openOn_10 (by decide) ?_
      refine lv_goto (tgt := 44) hx hb dX8_openOn_12 (by decide) ?_
      exact W.iret (v := (-5)) hx hb hret (fun t ht hW => ⟨(-5), rfl, (Eq.symm (Eq.trans (if_pos c_1) (Eq.trans (if_pos c_7) rfl))), ht⟩) (fun _ h => absurd h List.not_mem_nil) dX8_openOn_44

def X8_takes (f : Nat → Int32) (p1 : Int32) (p2 : Int32) : (Nat → Int32) :=
  let v_9 := 132 + (5 * (f 2))
  if p2 = 0 then
    let r_28 := X8_isGood f (f 1)
    let v_39 := f (72 + p1).toNatClampNeg
    if v_39 = (-5) then
      if r_28 = 0 then
        ((upd (upd (upd (upd (upd (upd f (v_9 + 0).toNatClampNeg p1) (v_9 + 1).toNatClampNeg v_39) (v_9 + 2).toNatClampNeg 0) (v_9 + 3).toNatClampNeg ((upd (upd (upd f (v_9 + 0).toNatClampNeg p1) (v_9 + 1).toNatClampNeg v_39) (v_9 + 2).toNatClampNeg 0) 3)) (v_9 + 4).toNatClampNeg p2) 2 (((upd (upd (upd (upd (upd f (v_9 + 0).toNatClampNeg p1) (v_9 + 1).toNatClampNeg v_39) (v_9 + 2).toNatClampNeg 0) (v_9 + 3).toNatClampNeg ((upd (upd (upd f (v_9 + 0).toNatClampNeg p1) (v_9 + 1).toNatClampNeg v_39) (v_9 + 2).toNatClampNeg 0) 3)) (v_9 + 4).toNatClampNeg p2) 2) + 1)))
      else
        ((upd (upd (upd (upd (upd (upd f (v_9 + 0).toNatClampNeg p1) (v_9 + 1).toNatClampNeg v_39) (v_9 + 2).toNatClampNeg 1) (v_9 + 3).toNatClampNeg ((upd (upd (upd f (v_9 + 0).toNatClampNeg p1) (v_9 + 1).toNatClampNeg v_39) (v_9 + 2).toNatClampNeg 1) 3)) (v_9 + 4).toNatClampNeg p2) 2 (((upd (upd (upd (upd (upd f (v_9 + 0).toNatClampNeg p1) (v_9 + 1).toNatClampNeg v_39) (v_9 + 2).toNatClampNeg 1) (v_9 + 3).toNatClampNeg ((upd (upd (upd f (v_9 + 0).toNatClampNeg p1) (v_9 + 1).toNatClampNeg v_39) (v_9 + 2).toNatClampNeg 1) 3)) (v_9 + 4).toNatClampNeg p2) 2) + 1)))
    else
      if r_28 = 0 then
        if r_28 = 0 then
          ((upd (upd (upd (upd (upd (upd f (v_9 + 0).toNatClampNeg p1) (v_9 + 1).toNatClampNeg (v_39 / 10)) (v_9 + 2).toNatClampNeg 0) (v_9 + 3).toNatClampNeg ((upd (upd (upd f (v_9 + 0).toNatClampNeg p1) (v_9 + 1).toNatClampNeg (v_39 / 10)) (v_9 + 2).toNatClampNeg 0) 3)) (v_9 + 4).toNatClampNeg p2) 2 (((upd (upd (upd (upd (upd f (v_9 + 0).toNatClampNeg p1) (v_9 + 1).toNatClampNeg (v_39 / 10)) (v_9 + 2).toNatClampNeg 0) (v_9 + 3).toNatClampNeg ((upd (upd (upd f (v_9 + 0).toNatClampNeg p1) (v_9 + 1).toNatClampNeg (v_39 / 10)) (v_9 + 2).toNatClampNeg 0) 3)) (v_9 + 4).toNatClampNeg p2) 2) + 1)))
        else
          ((upd (upd (upd (upd (upd (upd f (v_9 + 0).toNatClampNeg p1) (v_9 + 1).toNatClampNeg (v_39 / 10)) (v_9 + 2).toNatClampNeg 1) (v_9 + 3).toNatClampNeg ((upd (upd (upd f (v_9 + 0).toNatClampNeg p1) (v_9 + 1).toNatClampNeg (v_39 / 10)) (v_9 + 2).toNatClampNeg 1) 3)) (v_9 + 4).toNatClampNeg p2) 2 (((upd (upd (upd (upd (upd f (v_9 + 0).toNatClampNeg p1) (v_9 + 1).toNatClampNeg (v_39 / 10)) (v_9 + 2).toNatClampNeg 1) (v_9 + 3).toNatClampNeg ((upd (upd (upd f (v_9 + 0).toNatClampNeg p1) (v_9 + 1).toNatClampNeg (v_39 / 10)) (v_9 + 2).toNatClampNeg 1) 3)) (v_9 + 4).toNatClampNeg p2) 2) + 1)))
      else
        if r_28 = 0 then
          ((upd (upd (upd (upd (upd (upd f (v_9 + 0).toNatClampNeg p1) (v_9 + 1).toNatClampNeg v_39) (v_9 + 2).toNatClampNeg 0) (v_9 + 3).toNatClampNeg ((upd (upd (upd f (v_9 + 0).toNatClampNeg p1) (v_9 + 1).toNatClampNeg v_39) (v_9 + 2).toNatClampNeg 0) 3)) (v_9 + 4).toNatClampNeg p2) 2 (((upd (upd (upd (upd (upd f (v_9 + 0).toNatClampNeg p1) (v_9 + 1).toNatClampNeg v_39) (v_9 + 2).toNatClampNeg 0) (v_9 + 3).toNatClampNeg ((upd (upd (upd f (v_9 + 0).toNatClampNeg p1) (v_9 + 1).toNatClampNeg v_39) (v_9 + 2).toNatClampNeg 0) 3)) (v_9 + 4).toNatClampNeg p2) 2) + 1)))
        else
          ((upd (upd (upd (upd (upd (upd f (v_9 + 0).toNatClampNeg p1) (v_9 + 1).toNatClampNeg v_39) (v_9 + 2).toNatClampNeg 1) (v_9 + 3).toNatClampNeg ((upd (upd (upd f (v_9 + 0).toNatClampNeg p1) (v_9 + 1).toNatClampNeg v_39) (v_9 + 2).toNatClampNeg 1) 3)) (v_9 + 4).toNatClampNeg p2) 2 (((upd (upd (upd (upd (upd f (v_9 + 0).toNatClampNeg p1) (v_9 + 1).toNatClampNeg v_39) (v_9 + 2).toNatClampNeg 1) (v_9 + 3).toNatClampNeg ((upd (upd (upd f (v_9 + 0).toNatClampNeg p1) (v_9 + 1).toNatClampNeg v_39) (v_9 + 2).toNatClampNeg 1) 3)) (v_9 + 4).toNatClampNeg p2) 2) + 1)))
  else
    let r_28 := X8_isGood f ((f 0) - (f 1))
    let v_39 := f (72 + p1).toNatClampNeg
    if v_39 = (-5) then
      if r_28 = 0 then
        ((upd (upd (upd (upd (upd (upd f (v_9 + 0).toNatClampNeg p1) (v_9 + 1).toNatClampNeg v_39) (v_9 + 2).toNatClampNeg 0) (v_9 + 3).toNatClampNeg ((upd (upd (upd f (v_9 + 0).toNatClampNeg p1) (v_9 + 1).toNatClampNeg v_39) (v_9 + 2).toNatClampNeg 0) 3)) (v_9 + 4).toNatClampNeg p2) 2 (((upd (upd (upd (upd (upd f (v_9 + 0).toNatClampNeg p1) (v_9 + 1).toNatClampNeg v_39) (v_9 + 2).toNatClampNeg 0) (v_9 + 3).toNatClampNeg ((upd (upd (upd f (v_9 + 0).toNatClampNeg p1) (v_9 + 1).toNatClampNeg v_39) (v_9 + 2).toNatClampNeg 0) 3)) (v_9 + 4).toNatClampNeg p2) 2) + 1)))
      else
        ((upd (upd (upd (upd (upd (upd f (v_9 + 0).toNatClampNeg p1) (v_9 + 1).toNatClampNeg v_39) (v_9 + 2).toNatClampNeg 1) (v_9 + 3).toNatClampNeg ((upd (upd (upd f (v_9 + 0).toNatClampNeg p1) (v_9 + 1).toNatClampNeg v_39) (v_9 + 2).toNatClampNeg 1) 3)) (v_9 + 4).toNatClampNeg p2) 2 (((upd (upd (upd (upd (upd f (v_9 + 0).toNatClampNeg p1) (v_9 + 1).toNatClampNeg v_39) (v_9 + 2).toNatClampNeg 1) (v_9 + 3).toNatClampNeg ((upd (upd (upd f (v_9 + 0).toNatClampNeg p1) (v_9 + 1).toNatClampNeg v_39) (v_9 + 2).toNatClampNeg 1) 3)) (v_9 + 4).toNatClampNeg p2) 2) + 1)))
    else
      if r_28 = 0 then
        if r_28 = 0 then
          ((upd (upd (upd (upd (upd (upd f (v_9 + 0).toNatClampNeg p1) (v_9 + 1).toNatClampNeg (v_39 / 10)) (v_9 + 2).toNatClampNeg 0) (v_9 + 3).toNatClampNeg ((upd (upd (upd f (v_9 + 0).toNatClampNeg p1) (v_9 + 1).toNatClampNeg (v_39 / 10)) (v_9 + 2).toNatClampNeg 0) 3)) (v_9 + 4).toNatClampNeg p2) 2 (((upd (upd (upd (upd (upd f (v_9 + 0).toNatClampNeg p1) (v_9 + 1).toNatClampNeg (v_39 / 10)) (v_9 + 2).toNatClampNeg 0) (v_9 + 3).toNatClampNeg ((upd (upd (upd f (v_9 + 0).toNatClampNeg p1) (v_9 + 1).toNatClampNeg (v_39 / 10)) (v_9 + 2).toNatClampNeg 0) 3)) (v_9 + 4).toNatClampNeg p2) 2) + 1)))
        else
          ((upd (upd (upd (upd (upd (upd f (v_9 + 0).toNatClampNeg p1) (v_9 + 1).toNatClampNeg (v_39 / 10)) (v_9 + 2).toNatClampNeg 1) (v_9 + 3).toNatClampNeg ((upd (upd (upd f (v_9 + 0).toNatClampNeg p1) (v_9 + 1).toNatClampNeg (v_39 / 10)) (v_9 + 2).toNatClampNeg 1) 3)) (v_9 + 4).toNatClampNeg p2) 2 (((upd (upd (upd (upd (upd f (v_9 + 0).toNatClampNeg p1) (v_9 + 1).toNatClampNeg (v_39 / 10)) (v_9 + 2).toNatClampNeg 1) (v_9 + 3).toNatClampNeg ((upd (upd (upd f (v_9 + 0).toNatClampNeg p1) (v_9 + 1).toNatClampNeg (v_39 / 10)) (v_9 + 2).toNatClampNeg 1) 3)) (v_9 + 4).toNatClampNeg p2) 2) + 1)))
      else
        if r_28 = 0 then
          ((upd (upd (upd (upd (upd (upd f (v_9 + 0).toNatClampNeg p1) (v_9 + 1).toNatClampNeg v_39) (v_9 + 2).toNatClampNeg 0) (v_9 + 3).toNatClampNeg ((upd (upd (upd f (v_9 + 0).toNatClampNeg p1) (v_9 + 1).toNatClampNeg v_39) (v_9 + 2).toNatClampNeg 0) 3)) (v_9 + 4).toNatClampNeg p2) 2 (((upd (upd (upd (upd (upd f (v_9 + 0).toNatClampNeg p1) (v_9 + 1).toNatClampNeg v_39) (v_9 + 2).toNatClampNeg 0) (v_9 + 3).toNatClampNeg ((upd (upd (upd f (v_9 + 0).toNatClampNeg p1) (v_9 + 1).toNatClampNeg v_39) (v_9 + 2).toNatClampNeg 0) 3)) (v_9 + 4).toNatClampNeg p2) 2) + 1)))
        else
          ((upd (upd (upd (upd (upd (upd f (v_9 + 0).toNatClampNeg p1) (v_9 + 1).toNatClampNeg v_39) (v_9 + 2).toNatClampNeg 1) (v_9 + 3).toNatClampNeg ((upd (upd (upd f (v_9 + 0).toNatClampNeg p1) (v_9 + 1).toNatClampNeg v_39) (v_9 + 2).toNatClampNeg 1) 3)) (v_9 + 4).toNatClampNeg p2) 2 (((upd (upd (upd (upd (upd f (v_9 + 0).toNatClampNeg p1) (v_9 + 1).toNatClampNeg v_39) (v_9 + 2).toNatClampNeg 1) (v_9 + 3).toNatClampNeg ((upd (upd (upd f (v_9 + 0).toNatClampNeg p1) (v_9 + 1).toNatClampNeg v_39) (v_9 + 2).toNatClampNeg 1) 3)) (v_9 + 4).toNatClampNeg p2) 2) + 1)))
def S_X8_takes (f : Nat → Int32) (p1 : Int32) (p2 : Int32) : Prop :=
  ∀ v_9, v_9 = 132 + (5 * (f 2)) →
  (p2 = 0 →
    (S_X8_isGood f (f 1)) ∧
    ∀ r_28, r_28 = X8_isGood f (f 1) →
    (vp_in (72 + p1) 532) ∧
    ∀ v_39, v_39 = f (72 + p1).toNatClampNeg →
    (vp_in (v_9 + 0) 532) ∧
    (v_39 = (-5) →
      (vp_in (v_9 + 1) 532) ∧
      (r_28 = 0 →
        (vp_in (v_9 + 2) 532) ∧
        (vp_in (v_9 + 3) 532) ∧
        (vp_in (v_9 + 4) 532) ∧
        True) ∧
      (¬ (r_28 = 0) →
        (vp_in (v_9 + 2) 532) ∧
        (vp_in (v_9 + 3) 532) ∧
        (vp_in (v_9 + 4) 532) ∧
        True)) ∧
    (¬ (v_39 = (-5)) →
      (r_28 = 0 →
        (vp_in (v_9 + 1) 532) ∧
        (r_28 = 0 →
          (vp_in (v_9 + 2) 532) ∧
          (vp_in (v_9 + 3) 532) ∧
          (vp_in (v_9 + 4) 532) ∧
          True) ∧
        (¬ (r_28 = 0) →
          (vp_in (v_9 + 2) 532) ∧
          (vp_in (v_9 + 3) 532) ∧
          (vp_in (v_9 + 4) 532) ∧
          True)) ∧
      (¬ (r_28 = 0) →
        (vp_in (v_9 + 1) 532) ∧
        (r_28 = 0 →
          (vp_in (v_9 + 2) 532) ∧
          (vp_in (v_9 + 3) 532) ∧
          (vp_in (v_9 + 4) 532) ∧
          True) ∧
        (¬ (r_28 = 0) →
          (vp_in (v_9 + 2) 532) ∧
          (vp_in (v_9 + 3) 532) ∧
          (vp_in (v_9 + 4) 532) ∧
          True)))) ∧
  (¬ (p2 = 0) →
    (S_X8_isGood f ((f 0) - (f 1))) ∧
    ∀ r_28, r_28 = X8_isGood f ((f 0) - (f 1)) →
    (vp_in (72 + p1) 532) ∧
    ∀ v_39, v_39 = f (72 + p1).toNatClampNeg →
    (vp_in (v_9 + 0) 532) ∧
    (v_39 = (-5) →
      (vp_in (v_9 + 1) 532) ∧
      (r_28 = 0 →
        (vp_in (v_9 + 2) 532) ∧
        (vp_in (v_9 + 3) 532) ∧
        (vp_in (v_9 + 4) 532) ∧
        True) ∧
      (¬ (r_28 = 0) →
        (vp_in (v_9 + 2) 532) ∧
        (vp_in (v_9 + 3) 532) ∧
        (vp_in (v_9 + 4) 532) ∧
        True)) ∧
    (¬ (v_39 = (-5)) →
      (r_28 = 0 →
        (vp_in (v_9 + 1) 532) ∧
        (r_28 = 0 →
          (vp_in (v_9 + 2) 532) ∧
          (vp_in (v_9 + 3) 532) ∧
          (vp_in (v_9 + 4) 532) ∧
          True) ∧
        (¬ (r_28 = 0) →
          (vp_in (v_9 + 2) 532) ∧
          (vp_in (v_9 + 3) 532) ∧
          (vp_in (v_9 + 4) 532) ∧
          True)) ∧
      (¬ (r_28 = 0) →
        (vp_in (v_9 + 1) 532) ∧
        (r_28 = 0 →
          (vp_in (v_9 + 2) 532) ∧
          (vp_in (v_9 + 3) 532) ∧
          (vp_in (v_9 + 4) 532) ∧
          True) ∧
        (¬ (r_28 = 0) →
          (vp_in (v_9 + 2) 532) ∧
          (vp_in (v_9 + 3) 532) ∧
          (vp_in (v_9 + 4) 532) ∧
          True))))
set_option maxHeartbeats 4000000 in
set_option maxRecDepth 100000 in
theorem c_X8_takes (l : Launch) (D : va_G) (yI yC yO : ClassId) (b : Nat) (f : Nat → Int32) (p1 : Int32) (p2 : Int32) (sz : Nat) (hs : S_X8_takes f p1 p2) : Met l yX8_takes wsX8_takes ({ frames := 1, cells := 0, slots := 0, locals := 30 }) (va_Pc [.ref b, .int p1, .int p2] (lt_M D yI yC yO (lt_Ro yI b 532 f) sz)) (lt_Qv D (X8_takes f p1 p2) (fun u => lt_Ro yI b 532 u) (va_A (lt_Ro yI b 532 f) sz)) 0 0 (va_A (lt_Ro yI b 532 f) sz) := by
  refine Met.ofW (cc := cX8_takes) (maxL := 6) (ret := none) (by decide) rfl ?_
  intro p e s m args below meth c s₁ B0 hml hv
  obtain ⟨rfl, hsz, hP, hK0, hD0⟩ := hv
  have hx := B0.exec
  have hb := B0.bytes
  have hret := B0.returns
  have hts := atoms_spec (ws := wsX8_takes) B0.pre
  have hown : s.vm.findClass RX8 = some m.cls := findClass_of_methodNamed B0.named
  have hlocks := B0.notSynchronized
  have hK := hK0.1
  have hN := hK0.2
  subst hsz
  have hD := hD0.self (sz := s.heap.size)
  generalize hAe : va_A (lt_Ro yI b 532 f) s.heap.size = A at hD ⊢
  have hA : ∀ q : Nat, s.heap.size ≤ q → A q := fun q h => by rw [← hAe]; exact Or.inr h
  have hS : va_S A s.heap s.heap [] := va_S.rf
  have hP : va_P D vwCl (lt_Ro yI b 532 f) s.heap := hP
  have hD : va_D A (lt_Ro yI b 532 f) := hD
  have hl := lv_entry ([.ref b, .int p1, .int p2]) (n := 6) (Nat.le_of_ble_eq_true rfl)
  rw [lg_entry_eq]
  generalize (lg_sl ([.ref b, .int p1, .int p2]) ++ List.replicate (6 - (lg_sl ([.ref b, .int p1, .int p2])).length) Slot.unset).toArray = ls at hl ⊢
  have hl : lv_has ls 6 [(0, .ref b), (1, .int p1), (2, .int p2)] := hl
  refine lv_sipush (v := 132) hx hb dX8_takes_0 (by decide) ?_
  refine lv_iconst (v := 5) hx hb dX8_takes_3 (by decide) ?_
  refine lv_aload_n hx hb dX8_takes_4 rfl (lv_at hl 0 rfl) ?_
  refine lv_iconst (v := 2) hx hb dX8_takes_5 (by decide) ?_
  refine va_iald hx hb hK hP 0 0 rfl rfl (i := 2) (vp_in_iff.mpr (by decide)) dX8_takes_6 ?_
  refine lt_top (y := (f 2)) rfl ?_
  refine lv_imul hx hb dX8_takes_7 ?_
  refine lv_iadd hx hb dX8_takes_8 ?_
  refine lv_topi (fun v_9 e_v_9 => ?_)
  have hs := hs v_9 e_v_9
  refine lv_istore_n (lv' := [(3, .int v_9), (0, .ref b), (1, .int p1), (2, .int p2)]) hx hb dX8_takes_9 rfl hl (by decide) rfl (fun ls hl => ?_)
  refine lv_aload_n hx hb dX8_takes_10 rfl (lv_at hl 1 rfl) ?_
  refine lv_iload_n hx hb dX8_takes_11 rfl (lv_at hl 3 rfl) ?_
  refine lv_if_ne (tgt := 21) hx hb dX8_takes_12 (by decide) (fun c_12 => ?_) (fun c_12 => ?_)
  · have hs := hs.2 c_12
    refine lv_aload_n hx hb dX8_takes_21 rfl (lv_at hl 1 rfl) ?_
    refine lv_iconst (v := 0) hx hb dX8_takes_22 (by decide) ?_
    refine va_iald hx hb hK hP 0 0 rfl rfl (i := 0) (vp_in_iff.mpr (by decide)) dX8_takes_23 ?_
    refine lt_top (y := (f 0)) rfl ?_
    refine lv_aload_n hx hb dX8_takes_24 rfl (lv_at hl 1 rfl) ?_
    refine lv_iconst (v := 1) hx hb dX8_takes_25 (by decide) ?_
    refine va_iald hx hb hK hP 0 0 rfl rfl (i := 1) (vp_in_iff.mpr (by decide)) dX8_takes_26 ?_
    refine lt_top (y := (f 1)) rfl ?_
    refine lv_isub hx hb dX8_takes_27 ?_
    have ho_28 := hs.1; have hs := hs.2
    have hPc := hP.sub (ws' := lt_Ro yI b 532 f) [0] rfl
    refine lt_cR (va_runS (As := [.ref b, .int ((f 0) - (f 1))]) (rest := []) ⟨hx, hb, hml, hown, hts⟩ (c_X8_isGood l D yI yC yO b f ((f 0) - (f 1)) ho_28) (va_cwS 2 hts gX8_takes_X8_isGood rfl rfl rfl (by decide +kernel) ⟨Nat.le_of_ble_eq_true rfl, Nat.le_of_ble_eq_true rfl⟩) (lt_pS hK0 hPc) rfl rfl hl.1 rfl (lv_room (Nat.le_of_ble_eq_true rfl)) dX8_takes_28 ⟨Nat.zero_le _, Nat.zero_le _⟩) (fun r_28 e_r_28 => ?_)
    have hs := hs r_28 e_r_28
    refine lv_istore (lv' := [(4, .int r_28), (3, .int v_9), (0, .ref b), (1, .int p1), (2, .int p2)]) hx hb dX8_takes_31 hl (by decide) rfl (fun ls hl => ?_)
    refine lv_aload_n hx hb dX8_takes_33 rfl (lv_at hl 2 rfl) ?_
    refine lv_bipush (v := 72) hx hb dX8_takes_34 (by decide) ?_
    refine lv_iload_n hx hb dX8_takes_36 rfl (lv_at hl 3 rfl) ?_
    refine lv_iadd hx hb dX8_takes_37 ?_
    have ho_38 := hs.1; have hs := hs.2
    refine va_iald hx hb hK hP 0 0 rfl rfl (i := (72 + p1)) (ho_38) dX8_takes_38 ?_
    refine lv_topi (fun v_39 e_v_39 => ?_)
    have hs := hs v_39 e_v_39
    refine lv_istore (lv' := [(5, .int v_39), (4, .int r_28), (3, .int v_9), (0, .ref b), (1, .int p1), (2, .int p2)]) hx hb dX8_takes_39 hl (by decide) rfl (fun ls hl => ?_)
    refine lv_aload_n hx hb dX8_takes_41 rfl (lv_at hl 3 rfl) ?_
    refine lv_iload_n hx hb dX8_takes_42 rfl (lv_at hl 2 rfl) ?_
    refine lv_iconst (v := 0) hx hb dX8_takes_43 (by decide) ?_
    refine lv_iadd hx hb dX8_takes_44 ?_
    refine lv_iload_n hx hb dX8_takes_45 rfl (lv_at hl 4 rfl) ?_
    have ho_46 := hs.1; have hs := hs.2
    refine va_iast hx hb hK hP hD hS 0 0 rfl rfl (i := (v_9 + 0)) (x := p1) (ho_46) dX8_takes_46 (fun H locs hP hD hS => ?_)
    have hP : va_P D vwCl (lt_Ro yI b 532 (upd f (v_9 + 0).toNatClampNeg p1)) H := hP
    have hD : va_D A (lt_Ro yI b 532 (upd f (v_9 + 0).toNatClampNeg p1)) := hD
    refine lv_aload_n hx hb dX8_takes_47 rfl (lv_at hl 3 rfl) ?_
    refine lv_iload_n hx hb dX8_takes_48 rfl (lv_at hl 2 rfl) ?_
    refine lv_iconst (v := 1) hx hb dX8_takes_49 (by decide) ?_
    refine lv_iadd hx hb dX8_takes_50 ?_
    refine lv_iload hx hb dX8_takes_51 (lv_at hl 0 rfl) ?_
    refine lv_bipush (v := (-5)) hx hb dX8_takes_53 (by decide) ?_
    refine lv_icmp_eq (tgt := 63) hx hb dX8_takes_55 (by decide) (fun c_55 => ?_) (fun c_55 => ?_)
    · have hs := hs.1 c_55
      refine lv_iload hx hb dX8_takes_63 (lv_at hl 0 rfl) ?_
      refine lv_goto (tgt := 73) hx hb dX8_takes_65 (by decide) ?_
      have ho_73 := hs.1; have hs := hs.2
      refine va_iast hx hb hK hP hD hS 0 0 rfl rfl (i := (v_9 + 1)) (x := v_39) (ho_73) dX8_takes_73 (fun H locs hP hD hS => ?_)
      have hP : va_P D vwCl (lt_Ro yI b 532 (upd (upd f (v_9 + 0).toNatClampNeg p1) (v_9 + 1).toNatClampNeg v_39)) H := hP
      have hD : va_D A (lt_Ro yI b 532 (upd (upd f (v_9 + 0).toNatClampNeg p1) (v_9 + 1).toNatClampNeg v_39)) := hD
      refine lv_aload_n hx hb dX8_takes_74 rfl (lv_at hl 3 rfl) ?_
      refine lv_iload_n hx hb dX8_takes_75 rfl (lv_at hl 2 rfl) ?_
      refine lv_iconst (v := 2) hx hb dX8_takes_76 (by decide) ?_
      refine lv_iadd hx hb dX8_takes_77 ?_
      refine lv_iload hx hb dX8_takes_78 (lv_at hl 1 rfl) ?_
      refine lv_if_eq (tgt := 87) hx hb dX8_takes_80 (by decide) (fun c_80 => ?_) (fun c_80 => ?_)
      · have hs := hs.1 c_80
        refine lv_iconst (v := 0) hx hb dX8_takes_87 (by decide) ?_
        have ho_88 := hs.1; have hs := hs.2
        refine va_iast hx hb hK hP hD hS 0 0 rfl rfl (i := (v_9 + 2)) (x := 0) (ho_88) dX8_takes_88 (fun H locs hP hD hS => ?_)
        have hP : va_P D vwCl (lt_Ro yI b 532 (upd (upd (upd f (v_9 + 0).toNatClampNeg p1) (v_9 + 1).toNatClampNeg v_39) (v_9 + 2).toNatClampNeg 0)) H := hP
        have hD : va_D A (lt_Ro yI b 532 (upd (upd (upd f (v_9 + 0).toNatClampNeg p1) (v_9 + 1).toNatClampNeg v_39) (v_9 + 2).toNatClampNeg 0)) := hD
        refine lv_aload_n hx hb dX8_takes_89 rfl (lv_at hl 3 rfl) ?_
        refine lv_iload_n hx hb dX8_takes_90 rfl (lv_at hl 2 rfl) ?_
        refine lv_iconst (v := 3) hx hb dX8_takes_91 (by decide) ?_
        refine lv_iadd hx hb dX8_takes_92 ?_
        refine lv_aload_n hx hb dX8_takes_93 rfl (lv_at hl 3 rfl) ?_
        refine lv_iconst (v := 3) hx hb dX8_takes_94 (by decide) ?_
        refine va_iald hx hb hK hP 0 0 rfl rfl (i := 3) (vp_in_iff.mpr (by decide)) dX8_takes_95 ?_
        refine lt_top (y := ((upd (upd (upd f (v_9 + 0).toNatClampNeg p1) (v_9 + 1).toNatClampNeg v_39) (v_9 + 2).toNatClampNeg 0) 3)) rfl ?_
        have ho_96 := hs.1; have hs := hs.2
        refine va_iast hx hb hK hP hD hS 0 0 rfl rfl (i := (v_9 + 3)) (x := ((upd (upd (upd f (v_9 + 0).toNatClampNeg p1) (v_9 + 1).toNatClampNeg v_39) (v_9 + 2).toNatClampNeg 0) 3)) (ho_96) dX8_takes_96 (fun H locs hP hD hS => ?_)
        have hP : va_P D vwCl (lt_Ro yI b 532 (upd (upd (upd (upd f (v_9 + 0).toNatClampNeg p1) (v_9 + 1).toNatClampNeg v_39) (v_9 + 2).toNatClampNeg 0) (v_9 + 3).toNatClampNeg ((upd (upd (upd f (v_9 + 0).toNatClampNeg p1) (v_9 + 1).toNatClampNeg v_39) (v_9 + 2).toNatClampNeg 0) 3))) H := hP
        have hD : va_D A (lt_Ro yI b 532 (upd (upd (upd (upd f (v_9 + 0).toNatClampNeg p1) (v_9 + 1).toNatClampNeg v_39) (v_9 + 2).toNatClampNeg 0) (v_9 + 3).toNatClampNeg ((upd (upd (upd f (v_9 + 0).toNatClampNeg p1) (v_9 + 1).toNatClampNeg v_39) (v_9 + 2).toNatClampNeg 0) 3))) := hD
        refine lv_aload_n hx hb dX8_takes_97 rfl (lv_at hl 3 rfl) ?_
        refine lv_iload_n hx hb dX8_takes_98 rfl (lv_at hl 2 rfl) ?_
        refine lv_iconst (v := 4) hx hb dX8_takes_99 (by decide) ?_
        refine lv_iadd hx hb dX8_takes_100 ?_
        refine lv_iload_n hx hb dX8_takes_101 rfl (lv_at hl 5 rfl) ?_
        have ho_102 := hs.1; have hs := hs.2
        refine va_iast hx hb hK hP hD hS 0 0 rfl rfl (i := (v_9 + 4)) (x := p2) (ho_102) dX8_takes_102 (fun H locs hP hD hS => ?_)
        have hP : va_P D vwCl (lt_Ro yI b 532 (upd (upd (upd (upd (upd f (v_9 + 0).toNatClampNeg p1) (v_9 + 1).toNatClampNeg v_39) (v_9 + 2).toNatClampNeg 0) (v_9 + 3).toNatClampNeg ((upd (upd (upd f (v_9 + 0).toNatClampNeg p1) (v_9 + 1).toNatClampNeg v_39) (v_9 + 2).toNatClampNeg 0) 3)) (v_9 + 4).toNatClampNeg p2)) H := hP
        have hD : va_D A (lt_Ro yI b 532 (upd (upd (upd (upd (upd f (v_9 + 0).toNatClampNeg p1) (v_9 + 1).toNatClampNeg v_39) (v_9 + 2).toNatClampNeg 0) (v_9 + 3).toNatClampNeg ((upd (upd (upd f (v_9 + 0).toNatClampNeg p1) (v_9 + 1).toNatClampNeg v_39) (v_9 + 2).toNatClampNeg 0) 3)) (v_9 + 4).toNatClampNeg p2)) := hD
        refine lv_aload_n hx hb dX8_takes_103 rfl (lv_at hl 3 rfl) ?_
        refine lv_iconst (v := 2) hx hb dX8_takes_104 (by decide) ?_
        refine lv_dup2_11 hx hb dX8_takes_105 rfl rfl ?_
        refine va_iald hx hb hK hP 0 0 rfl rfl (i := 2) (vp_in_iff.mpr (by decide)) dX8_takes_106 ?_
        refine lt_top (y := ((upd (upd (upd (upd (upd f (v_9 + 0).toNatClampNeg p1) (v_9 + 1).toNatClampNeg v_39) (v_9 + 2).toNatClampNeg 0) (v_9 + 3).toNatClampNeg ((upd (upd (upd f (v_9 + 0).toNatClampNeg p1) (v_9 + 1).toNatClampNeg v_39) (v_9 + 2).toNatClampNeg 0) 3)) (v_9 + 4).toNatClampNeg p2) 2)) rfl ?_
        refine lv_iconst (v := 1) hx hb dX8_takes_107 (by decide) ?_
        refine lv_iadd hx hb dX8_takes_108 ?_
        refine va_iast hx hb hK hP hD hS 0 0 rfl rfl (i := 2) (x := (((upd (upd (upd (upd (upd f (v_9 + 0).toNatClampNeg p1) (v_9 + 1).toNatClampNeg v_39) (v_9 + 2).toNatClampNeg 0) (v_9 + 3).toNatClampNeg ((upd (upd (upd f (v_9 + 0).toNatClampNeg p1) (v_9 + 1).toNatClampNeg v_39) (v_9 + 2).toNatClampNeg 0) 3)) (v_9 + 4).toNatClampNeg p2) 2) + 1)) (vp_in_iff.mpr (by decide)) dX8_takes_109 (fun H locs hP hD hS => ?_)
        have hP : va_P D vwCl (lt_Ro yI b 532 (upd (upd (upd (upd (upd (upd f (v_9 + 0).toNatClampNeg p1) (v_9 + 1).toNatClampNeg v_39) (v_9 + 2).toNatClampNeg 0) (v_9 + 3).toNatClampNeg ((upd (upd (upd f (v_9 + 0).toNatClampNeg p1) (v_9 + 1).toNatClampNeg v_39) (v_9 + 2).toNatClampNeg 0) 3)) (v_9 + 4).toNatClampNeg p2) 2 (((upd (upd (upd (upd (upd f (v_9 + 0).toNatClampNeg p1) (v_9 + 1).toNatClampNeg v_39) (v_9 + 2).toNatClampNeg 0) (v_9 + 3).toNatClampNeg ((upd (upd (upd f (v_9 + 0).toNatClampNeg p1) (v_9 + 1).toNatClampNeg v_39) (v_9 + 2).toNatClampNeg 0) 3)) (v_9 + 4).toNatClampNeg p2) 2) + 1))) H := hP
        have hD : va_D A (lt_Ro yI b 532 (upd (upd (upd (upd (upd (upd f (v_9 + 0).toNatClampNeg p1) (v_9 + 1).toNatClampNeg v_39) (v_9 + 2).toNatClampNeg 0) (v_9 + 3).toNatClampNeg ((upd (upd (upd f (v_9 + 0).toNatClampNeg p1) (v_9 + 1).toNatClampNeg v_39) (v_9 + 2).toNatClampNeg 0) 3)) (v_9 + 4).toNatClampNeg p2) 2 (((upd (upd (upd (upd (upd f (v_9 + 0).toNatClampNeg p1) (v_9 + 1).toNatClampNeg v_39) (v_9 + 2).toNatClampNeg 0) (v_9 + 3).toNatClampNeg ((upd (upd (upd f (v_9 + 0).toNatClampNeg p1) (v_9 + 1).toNatClampNeg v_39) (v_9 + 2).toNatClampNeg 0) 3)) (v_9 + 4).toNatClampNeg p2) 2) + 1))) := hD
        exact W.vret hx hb hret (fun t ht hW => ⟨⟨((upd (upd (upd (upd (upd (upd f (v_9 + 0).toNatClampNeg p1) (v_9 + 1).toNatClampNeg v_39) (v_9 + 2).toNatClampNeg 0) (v_9 + 3).toNatClampNeg ((upd (upd (upd f (v_9 + 0).toNatClampNeg p1) (v_9 + 1).toNatClampNeg v_39) (v_9 + 2).toNatClampNeg 0) 3)) (v_9 + 4).toNatClampNeg p2) 2 (((upd (upd (upd (upd (upd f (v_9 + 0).toNatClampNeg p1) (v_9 + 1).toNatClampNeg v_39) (v_9 + 2).toNatClampNeg 0) (v_9 + 3).toNatClampNeg ((upd (upd (upd f (v_9 + 0).toNatClampNeg p1) (v_9 + 1).toNatClampNeg v_39) (v_9 + 2).toNatClampNeg 0) 3)) (v_9 + 4).toNatClampNeg p2) 2) + 1))), rfl, (by subst e_v_39 e_r_28 e_v_9; exact (Eq.symm (Eq.trans (if_neg c_12) (Eq.trans (if_pos c_55) (Eq.trans (if_pos c_80) rfl))))), by rw [ht]; exact hP, hD⟩, hS.F ht⟩) hS.2.2 dX8_takes_110
      · have hs := hs.2 c_80
        refine lv_iconst (v := 1) hx hb dX8_takes_83 (by decide) ?_
        refine lv_goto (tgt := 88) hx hb dX8_takes_84 (by decide) ?_
        have ho_88 := hs.1; have hs := hs.2
        refine va_iast hx hb hK hP hD hS 0 0 rfl rfl (i := (v_9 + 2)) (x := 1) (ho_88) dX8_takes_88 (fun H locs hP hD hS => ?_)
        have hP : va_P D vwCl (lt_Ro yI b 532 (upd (upd (upd f (v_9 + 0).toNatClampNeg p1) (v_9 + 1).toNatClampNeg v_39) (v_9 + 2).toNatClampNeg 1)) H := hP
        have hD : va_D A (lt_Ro yI b 532 (upd (upd (upd f (v_9 + 0).toNatClampNeg p1) (v_9 + 1).toNatClampNeg v_39) (v_9 + 2).toNatClampNeg 1)) := hD
        refine lv_aload_n hx hb dX8_takes_89 rfl (lv_at hl 3 rfl) ?_
        refine lv_iload_n hx hb dX8_takes_90 rfl (lv_at hl 2 rfl) ?_
        refine lv_iconst (v := 3) hx hb dX8_takes_91 (by decide) ?_
        refine lv_iadd hx hb dX8_takes_92 ?_
        refine lv_aload_n hx hb dX8_takes_93 rfl (lv_at hl 3 rfl) ?_
        refine lv_iconst (v := 3) hx hb dX8_takes_94 (by decide) ?_
        refine va_iald hx hb hK hP 0 0 rfl rfl (i := 3) (vp_in_iff.mpr (by decide)) dX8_takes_95 ?_
        refine lt_top (y := ((upd (upd (upd f (v_9 + 0).toNatClampNeg p1) (v_9 + 1).toNatClampNeg v_39) (v_9 + 2).toNatClampNeg 1) 3)) rfl ?_
        have ho_96 := hs.1; have hs := hs.2
        refine va_iast hx hb hK hP hD hS 0 0 rfl rfl (i := (v_9 + 3)) (x := ((upd (upd (upd f (v_9 + 0).toNatClampNeg p1) (v_9 + 1).toNatClampNeg v_39) (v_9 + 2).toNatClampNeg 1) 3)) (ho_96) dX8_takes_96 (fun H locs hP hD hS => ?_)
        have hP : va_P D vwCl (lt_Ro yI b 532 (upd (upd (upd (upd f (v_9 + 0).toNatClampNeg p1) (v_9 + 1).toNatClampNeg v_39) (v_9 + 2).toNatClampNeg 1) (v_9 + 3).toNatClampNeg ((upd (upd (upd f (v_9 + 0).toNatClampNeg p1) (v_9 + 1).toNatClampNeg v_39) (v_9 + 2).toNatClampNeg 1) 3))) H := hP
        have hD : va_D A (lt_Ro yI b 532 (upd (upd (upd (upd f (v_9 + 0).toNatClampNeg p1) (v_9 + 1).toNatClampNeg v_39) (v_9 + 2).toNatClampNeg 1) (v_9 + 3).toNatClampNeg ((upd (upd (upd f (v_9 + 0).toNatClampNeg p1) (v_9 + 1).toNatClampNeg v_39) (v_9 + 2).toNatClampNeg 1) 3))) := hD
        refine lv_aload_n hx hb dX8_takes_97 rfl (lv_at hl 3 rfl) ?_
        refine lv_iload_n hx hb dX8_takes_98 rfl (lv_at hl 2 rfl) ?_
        refine lv_iconst (v := 4) hx hb dX8_takes_99 (by decide) ?_
        refine lv_iadd hx hb dX8_takes_100 ?_
        refine lv_iload_n hx hb dX8_takes_101 rfl (lv_at hl 5 rfl) ?_
        have ho_102 := hs.1; have hs := hs.2
        refine va_iast hx hb hK hP hD hS 0 0 rfl rfl (i := (v_9 + 4)) (x := p2) (ho_102) dX8_takes_102 (fun H locs hP hD hS => ?_)
        have hP : va_P D vwCl (lt_Ro yI b 532 (upd (upd (upd (upd (upd f (v_9 + 0).toNatClampNeg p1) (v_9 + 1).toNatClampNeg v_39) (v_9 + 2).toNatClampNeg 1) (v_9 + 3).toNatClampNeg ((upd (upd (upd f (v_9 + 0).toNatClampNeg p1) (v_9 + 1).toNatClampNeg v_39) (v_9 + 2).toNatClampNeg 1) 3)) (v_9 + 4).toNatClampNeg p2)) H := hP
        have hD : va_D A (lt_Ro yI b 532 (upd (upd (upd (upd (upd f (v_9 + 0).toNatClampNeg p1) (v_9 + 1).toNatClampNeg v_39) (v_9 + 2).toNatClampNeg 1) (v_9 + 3).toNatClampNeg ((upd (upd (upd f (v_9 + 0).toNatClampNeg p1) (v_9 + 1).toNatClampNeg v_39) (v_9 + 2).toNatClampNeg 1) 3)) (v_9 + 4).toNatClampNeg p2)) := hD
        refine lv_aload_n hx hb dX8_takes_103 rfl (lv_at hl 3 rfl) ?_
        refine lv_iconst (v := 2) hx hb dX8_takes_104 (by decide) ?_
        refine lv_dup2_11 hx hb dX8_takes_105 rfl rfl ?_
        refine va_iald hx hb hK hP 0 0 rfl rfl (i := 2) (vp_in_iff.mpr (by decide)) dX8_takes_106 ?_
        refine lt_top (y := ((upd (upd (upd (upd (upd f (v_9 + 0).toNatClampNeg p1) (v_9 + 1).toNatClampNeg v_39) (v_9 + 2).toNatClampNeg 1) (v_9 + 3).toNatClampNeg ((upd (upd (upd f (v_9 + 0).toNatClampNeg p1) (v_9 + 1).toNatClampNeg v_39) (v_9 + 2).toNatClampNeg 1) 3)) (v_9 + 4).toNatClampNeg p2) 2)) rfl ?_
        refine lv_iconst (v := 1) hx hb dX8_takes_107 (by decide) ?_
        refine lv_iadd hx hb dX8_takes_108 ?_
        refine va_iast hx hb hK hP hD hS 0 0 rfl rfl (i := 2) (x := (((upd (upd (upd (upd (upd f (v_9 + 0).toNatClampNeg p1) (v_9 + 1).toNatClampNeg v_39) (v_9 + 2).toNatClampNeg 1) (v_9 + 3).toNatClampNeg ((upd (upd (upd f (v_9 + 0).toNatClampNeg p1) (v_9 + 1).toNatClampNeg v_39) (v_9 + 2).toNatClampNeg 1) 3)) (v_9 + 4).toNatClampNeg p2) 2) + 1)) (vp_in_iff.mpr (by decide)) dX8_takes_109 (fun H locs hP hD hS => ?_)
        have hP : va_P D vwCl (lt_Ro yI b 532 (upd (upd (upd (upd (upd (upd f (v_9 + 0).toNatClampNeg p1) (v_9 + 1).toNatClampNeg v_39) (v_9 + 2).toNatClampNeg 1) (v_9 + 3).toNatClampNeg ((upd (upd (upd f (v_9 + 0).toNatClampNeg p1) (v_9 + 1).toNatClampNeg v_39) (v_9 + 2).toNatClampNeg 1) 3)) (v_9 + 4).toNatClampNeg p2) 2 (((upd (upd (upd (upd (upd f (v_9 + 0).toNatClampNeg p1) (v_9 + 1).toNatClampNeg v_39) (v_9 + 2).toNatClampNeg 1) (v_9 + 3).toNatClampNeg ((upd (upd (upd f (v_9 + 0).toNatClampNeg p1) (v_9 + 1).toNatClampNeg v_39) (v_9 + 2).toNatClampNeg 1) 3)) (v_9 + 4).toNatClampNeg p2) 2) + 1))) H := hP
        have hD : va_D A (lt_Ro yI b 532 (upd (upd (upd (upd (upd (upd f (v_9 + 0).toNatClampNeg p1) (v_9 + 1).toNatClampNeg v_39) (v_9 + 2).toNatClampNeg 1) (v_9 + 3).toNatClampNeg ((upd (upd (upd f (v_9 + 0).toNatClampNeg p1) (v_9 + 1).toNatClampNeg v_39) (v_9 + 2).toNatClampNeg 1) 3)) (v_9 + 4).toNatClampNeg p2) 2 (((upd (upd (upd (upd (upd f (v_9 + 0).toNatClampNeg p1) (v_9 + 1).toNatClampNeg v_39) (v_9 + 2).toNatClampNeg 1) (v_9 + 3).toNatClampNeg ((upd (upd (upd f (v_9 + 0).toNatClampNeg p1) (v_9 + 1).toNatClampNeg v_39) (v_9 + 2).toNatClampNeg 1) 3)) (v_9 + 4).toNatClampNeg p2) 2) + 1))) := hD
        exact W.vret hx hb hret (fun t ht hW => ⟨⟨((upd (upd (upd (upd (upd (upd f (v_9 + 0).toNatClampNeg p1) (v_9 + 1).toNatClampNeg v_39) (v_9 + 2).toNatClampNeg 1) (v_9 + 3).toNatClampNeg ((upd (upd (upd f (v_9 + 0).toNatClampNeg p1) (v_9 + 1).toNatClampNeg v_39) (v_9 + 2).toNatClampNeg 1) 3)) (v_9 + 4).toNatClampNeg p2) 2 (((upd (upd (upd (upd (upd f (v_9 + 0).toNatClampNeg p1) (v_9 + 1).toNatClampNeg v_39) (v_9 + 2).toNatClampNeg 1) (v_9 + 3).toNatClampNeg ((upd (upd (upd f (v_9 + 0).toNatClampNeg p1) (v_9 + 1).toNatClampNeg v_39) (v_9 + 2).toNatClampNeg 1) 3)) (v_9 + 4).toNatClampNeg p2) 2) + 1))), rfl, (by subst e_v_39 e_r_28 e_v_9; exact (Eq.symm (Eq.trans (if_neg c_12) (Eq.trans (if_pos c_55) (Eq.trans (if_neg c_80) rfl))))), by rw [ht]; exact hP, hD⟩, hS.F ht⟩) hS.2.2 dX8_takes_110
    · have hs := hs.2 c_55
      refine lv_iload hx hb dX8_takes_58 (lv_at hl 1 rfl) ?_
      refine lv_if_eq (tgt := 68) hx hb dX8_takes_60 (by decide) (fun c_60 => ?_) (fun c_60 => ?_)
      · have hs := hs.1 c_60
        refine lv_iload hx hb dX8_takes_68 (lv_at hl 0 rfl) ?_
        refine lv_bipush (v := 10) hx hb dX8_takes_70 (by decide) ?_
        refine lv_idiv hx hb dX8_takes_72 (by decide) ?_
        have ho_73 := hs.1; have hs := hs.2
        refine va_iast hx hb hK hP hD hS 0 0 rfl rfl (i := (v_9 + 1)) (x := (v_39 / 10)) (ho_73) dX8_takes_73 (fun H locs hP hD hS => ?_)
        have hP : va_P D vwCl (lt_Ro yI b 532 (upd (upd f (v_9 + 0).toNatClampNeg p1) (v_9 + 1).toNatClampNeg (v_39 / 10))) H := hP
        have hD : va_D A (lt_Ro yI b 532 (upd (upd f (v_9 + 0).toNatClampNeg p1) (v_9 + 1).toNatClampNeg (v_39 / 10))) := hD
        refine lv_aload_n hx hb dX8_takes_74 rfl (lv_at hl 3 rfl) ?_
        refine lv_iload_n hx hb dX8_takes_75 rfl (lv_at hl 2 rfl) ?_
        refine lv_iconst (v := 2) hx hb dX8_takes_76 (by decide) ?_
        refine lv_iadd hx hb dX8_takes_77 ?_
        refine lv_iload hx hb dX8_takes_78 (lv_at hl 1 rfl) ?_
        refine lv_if_eq (tgt := 87) hx hb dX8_takes_80 (by decide) (fun c_80 => ?_) (fun c_80 => ?_)
        · have hs := hs.1 c_80
          refine lv_iconst (v := 0) hx hb dX8_takes_87 (by decide) ?_
          have ho_88 := hs.1; have hs := hs.2
          refine va_iast hx hb hK hP hD hS 0 0 rfl rfl (i := (v_9 + 2)) (x := 0) (ho_88) dX8_takes_88 (fun H locs hP hD hS => ?_)
          have hP : va_P D vwCl (lt_Ro yI b 532 (upd (upd (upd f (v_9 + 0).toNatClampNeg p1) (v_9 + 1).toNatClampNeg (v_39 / 10)) (v_9 + 2).toNatClampNeg 0)) H := hP
          have hD : va_D A (lt_Ro yI b 532 (upd (upd (upd f (v_9 + 0).toNatClampNeg p1) (v_9 + 1).toNatClampNeg (v_39 / 10)) (v_9 + 2).toNatClampNeg 0)) := hD
          refine lv_aload_n hx hb dX8_takes_89 rfl (lv_at hl 3 rfl) ?_
          refine lv_iload_n hx hb dX8_takes_90 rfl (lv_at hl 2 rfl) ?_
          refine lv_iconst (v := 3) hx hb dX8_takes_91 (by decide) ?_
          refine lv_iadd hx hb dX8_takes_92 ?_
          refine lv_aload_n hx hb dX8_takes_93 rfl (lv_at hl 3 rfl) ?_
          refine lv_iconst (v := 3) hx hb dX8_takes_94 (by decide) ?_
          refine va_iald hx hb hK hP 0 0 rfl rfl (i := 3) (vp_in_iff.mpr (by decide)) dX8_takes_95 ?_
          refine lt_top (y := ((upd (upd (upd f (v_9 + 0).toNatClampNeg p1) (v_9 + 1).toNatClampNeg (v_39 / 10)) (v_9 + 2).toNatClampNeg 0) 3)) rfl ?_
          have ho_96 := hs.1; have hs := hs.2
          refine va_iast hx hb hK hP hD hS 0 0 rfl rfl (i := (v_9 + 3)) (x := ((upd (upd (upd f (v_9 + 0).toNatClampNeg p1) (v_9 + 1).toNatClampNeg (v_39 / 10)) (v_9 + 2).toNatClampNeg 0) 3)) (ho_96) dX8_takes_96 (fun H locs hP hD hS => ?_)
          have hP : va_P D vwCl (lt_Ro yI b 532 (upd (upd (upd (upd f (v_9 + 0).toNatClampNeg p1) (v_9 + 1).toNatClampNeg (v_39 / 10)) (v_9 + 2).toNatClampNeg 0) (v_9 + 3).toNatClampNeg ((upd (upd (upd f (v_9 + 0).toNatClampNeg p1) (v_9 + 1).toNatClampNeg (v_39 / 10)) (v_9 + 2).toNatClampNeg 0) 3))) H := hP
          have hD : va_D A (lt_Ro yI b 532 (upd (upd (upd (upd f (v_9 + 0).toNatClampNeg p1) (v_9 + 1).toNatClampNeg (v_39 / 10)) (v_9 + 2).toNatClampNeg 0) (v_9 + 3).toNatClampNeg ((upd (upd (upd f (v_9 + 0).toNatClampNeg p1) (v_9 + 1).toNatClampNeg (v_39 / 10)) (v_9 + 2).toNatClampNeg 0) 3))) := hD
          refine lv_aload_n hx hb dX8_takes_97 rfl (lv_at hl 3 rfl) ?_
          refine lv_iload_n hx hb dX8_takes_98 rfl (lv_at hl 2 rfl) ?_
          refine lv_iconst (v := 4) hx hb dX8_takes_99 (by decide) ?_
          refine lv_iadd hx hb dX8_takes_100 ?_
          refine lv_iload_n hx hb dX8_takes_101 rfl (lv_at hl 5 rfl) ?_
          have ho_102 := hs.1; have hs := hs.2
          refine va_iast hx hb hK hP hD hS 0 0 rfl rfl (i := (v_9 + 4)) (x := p2) (ho_102) dX8_takes_102 (fun H locs hP hD hS => ?_)
          have hP : va_P D vwCl (lt_Ro yI b 532 (upd (upd (upd (upd (upd f (v_9 + 0).toNatClampNeg p1) (v_9 + 1).toNatClampNeg (v_39 / 10)) (v_9 + 2).toNatClampNeg 0) (v_9 + 3).toNatClampNeg ((upd (upd (upd f (v_9 + 0).toNatClampNeg p1) (v_9 + 1).toNatClampNeg (v_39 / 10)) (v_9 + 2).toNatClampNeg 0) 3)) (v_9 + 4).toNatClampNeg p2)) H := hP
          have hD : va_D A (lt_Ro yI b 532 (upd (upd (upd (upd (upd f (v_9 + 0).toNatClampNeg p1) (v_9 + 1).toNatClampNeg (v_39 / 10)) (v_9 + 2).toNatClampNeg 0) (v_9 + 3).toNatClampNeg ((upd (upd (upd f (v_9 + 0).toNatClampNeg p1) (v_9 + 1).toNatClampNeg (v_39 / 10)) (v_9 + 2).toNatClampNeg 0) 3)) (v_9 + 4).toNatClampNeg p2)) := hD
          refine lv_aload_n hx hb dX8_takes_103 rfl (lv_at hl 3 rfl) ?_
          refine lv_iconst (v := 2) hx hb dX8_takes_104 (by decide) ?_
          refine lv_dup2_11 hx hb dX8_takes_105 rfl rfl ?_
          refine va_iald hx hb hK hP 0 0 rfl rfl (i := 2) (vp_in_iff.mpr (by decide)) dX8_takes_106 ?_
          refine lt_top (y := ((upd (upd (upd (upd (upd f (v_9 + 0).toNatClampNeg p1) (v_9 + 1).toNatClampNeg (v_39 / 10)) (v_9 + 2).toNatClampNeg 0) (v_9 + 3).toNatClampNeg ((upd (upd (upd f (v_9 + 0).toNatClampNeg p1) (v_9 + 1).toNatClampNeg (v_39 / 10)) (v_9 + 2).toNatClampNeg 0) 3)) (v_9 + 4).toNatClampNeg p2) 2)) rfl ?_
          refine lv_iconst (v := 1) hx hb dX8_takes_107 (by decide) ?_
          refine lv_iadd hx hb dX8_takes_108 ?_
          refine va_iast hx hb hK hP hD hS 0 0 rfl rfl (i := 2) (x := (((upd (upd (upd (upd (upd f (v_9 + 0).toNatClampNeg p1) (v_9 + 1).toNatClampNeg (v_39 / 10)) (v_9 + 2).toNatClampNeg 0) (v_9 + 3).toNatClampNeg ((upd (upd (upd f (v_9 + 0).toNatClampNeg p1) (v_9 + 1).toNatClampNeg (v_39 / 10)) (v_9 + 2).toNatClampNeg 0) 3)) (v_9 + 4).toNatClampNeg p2) 2) + 1)) (vp_in_iff.mpr (by decide)) dX8_takes_109 (fun H locs hP hD hS => ?_)
          have hP : va_P D vwCl (lt_Ro yI b 532 (upd (upd (upd (upd (upd (upd f (v_9 + 0).toNatClampNeg p1) (v_9 + 1).toNatClampNeg (v_39 / 10)) (v_9 + 2).toNatClampNeg 0) (v_9 + 3).toNatClampNeg ((upd (upd (upd f (v_9 + 0).toNatClampNeg p1) (v_9 + 1).toNatClampNeg (v_39 / 10)) (v_9 + 2).toNatClampNeg 0) 3)) (v_9 + 4).toNatClampNeg p2) 2 (((upd (upd (upd (upd (upd f (v_9 + 0).toNatClampNeg p1) (v_9 + 1).toNatClampNeg (v_39 / 10)) (v_9 + 2).toNatClampNeg 0) (v_9 + 3).toNatClampNeg ((upd (upd (upd f (v_9 + 0).toNatClampNeg p1) (v_9 + 1).toNatClampNeg (v_39 / 10)) (v_9 + 2).toNatClampNeg 0) 3)) (v_9 + 4).toNatClampNeg p2) 2) + 1))) H := hP
          have hD : va_D A (lt_Ro yI b 532 (upd (upd (upd (upd (upd (upd f (v_9 + 0).toNatClampNeg p1) (v_9 + 1).toNatClampNeg (v_39 / 10)) (v_9 + 2).toNatClampNeg 0) (v_9 + 3).toNatClampNeg ((upd (upd (upd f (v_9 + 0).toNatClampNeg p1) (v_9 + 1).toNatClampNeg (v_39 / 10)) (v_9 + 2).toNatClampNeg 0) 3)) (v_9 + 4).toNatClampNeg p2) 2 (((upd (upd (upd (upd (upd f (v_9 + 0).toNatClampNeg p1) (v_9 + 1).toNatClampNeg (v_39 / 10)) (v_9 + 2).toNatClampNeg 0) (v_9 + 3).toNatClampNeg ((upd (upd (upd f (v_9 + 0).toNatClampNeg p1) (v_9 + 1).toNatClampNeg (v_39 / 10)) (v_9 + 2).toNatClampNeg 0) 3)) (v_9 + 4).toNatClampNeg p2) 2) + 1))) := hD
          exact W.vret hx hb hret (fun t ht hW => ⟨⟨((upd (upd (upd (upd (upd (upd f (v_9 + 0).toNatClampNeg p1) (v_9 + 1).toNatClampNeg (v_39 / 10)) (v_9 + 2).toNatClampNeg 0) (v_9 + 3).toNatClampNeg ((upd (upd (upd f (v_9 + 0).toNatClampNeg p1) (v_9 + 1).toNatClampNeg (v_39 / 10)) (v_9 + 2).toNatClampNeg 0) 3)) (v_9 + 4).toNatClampNeg p2) 2 (((upd (upd (upd (upd (upd f (v_9 + 0).toNatClampNeg p1) (v_9 + 1).toNatClampNeg (v_39 / 10)) (v_9 + 2).toNatClampNeg 0) (v_9 + 3).toNatClampNeg ((upd (upd (upd f (v_9 + 0).toNatClampNeg p1) (v_9 + 1).toNatClampNeg (v_39 / 10)) (v_9 + 2).toNatClampNeg 0) 3)) (v_9 + 4).toNatClampNeg p2) 2) + 1))), rfl, (by subst e_v_39 e_r_28 e_v_9; exact (Eq.symm (Eq.trans (if_neg c_12) (Eq.trans (if_neg c_55) (Eq.trans (if_pos c_60) (Eq.trans (if_pos c_80) rfl)))))), by rw [ht]; exact hP, hD⟩, hS.F ht⟩) hS.2.2 dX8_takes_110
        · have hs := hs.2 c_80
          refine lv_iconst (v := 1) hx hb dX8_takes_83 (by decide) ?_
          refine lv_goto (tgt := 88) hx hb dX8_takes_84 (by decide) ?_
          have ho_88 := hs.1; have hs := hs.2
          refine va_iast hx hb hK hP hD hS 0 0 rfl rfl (i := (v_9 + 2)) (x := 1) (ho_88) dX8_takes_88 (fun H locs hP hD hS => ?_)
          have hP : va_P D vwCl (lt_Ro yI b 532 (upd (upd (upd f (v_9 + 0).toNatClampNeg p1) (v_9 + 1).toNatClampNeg (v_39 / 10)) (v_9 + 2).toNatClampNeg 1)) H := hP
          have hD : va_D A (lt_Ro yI b 532 (upd (upd (upd f (v_9 + 0).toNatClampNeg p1) (v_9 + 1).toNatClampNeg (v_39 / 10)) (v_9 + 2).toNatClampNeg 1)) := hD
          refine lv_aload_n hx hb dX8_takes_89 rfl (lv_at hl 3 rfl) ?_
          refine lv_iload_n hx hb dX8_takes_90 rfl (lv_at hl 2 rfl) ?_
          refine lv_iconst (v := 3) hx hb dX8_takes_91 (by decide) ?_
          refine lv_iadd hx hb dX8_takes_92 ?_
          refine lv_aload_n hx hb dX8_takes_93 rfl (lv_at hl 3 rfl) ?_
          refine lv_iconst (v := 3) hx hb dX8_takes_94 (by decide) ?_
          refine va_iald hx hb hK hP 0 0 rfl rfl (i := 3) (vp_in_iff.mpr (by decide)) dX8_takes_95 ?_
          refine lt_top (y := ((upd (upd (upd f (v_9 + 0).toNatClampNeg p1) (v_9 + 1).toNatClampNeg (v_39 / 10)) (v_9 + 2).toNatClampNeg 1) 3)) rfl ?_
          have ho_96 := hs.1; have hs := hs.2
          refine va_iast hx hb hK hP hD hS 0 0 rfl rfl (i := (v_9 + 3)) (x := ((upd (upd (upd f (v_9 + 0).toNatClampNeg p1) (v_9 + 1).toNatClampNeg (v_39 / 10)) (v_9 + 2).toNatClampNeg 1) 3)) (ho_96) dX8_takes_96 (fun H locs hP hD hS => ?_)
          have hP : va_P D vwCl (lt_Ro yI b 532 (upd (upd (upd (upd f (v_9 + 0).toNatClampNeg p1) (v_9 + 1).toNatClampNeg (v_39 / 10)) (v_9 + 2).toNatClampNeg 1) (v_9 + 3).toNatClampNeg ((upd (upd (upd f (v_9 + 0).toNatClampNeg p1) (v_9 + 1).toNatClampNeg (v_39 / 10)) (v_9 + 2).toNatClampNeg 1) 3))) H := hP
          have hD : va_D A (lt_Ro yI b 532 (upd (upd (upd (upd f (v_9 + 0).toNatClampNeg p1) (v_9 + 1).toNatClampNeg (v_39 / 10)) (v_9 + 2).toNatClampNeg 1) (v_9 + 3).toNatClampNeg ((upd (upd (upd f (v_9 + 0).toNatClampNeg p1) (v_9 + 1).toNatClampNeg (v_39 / 10)) (v_9 + 2).toNatClampNeg 1) 3))) := hD
          refine lv_aload_n hx hb dX8_takes_97 rfl (lv_at hl 3 rfl) ?_
          refine lv_iload_n hx hb dX8_takes_98 rfl (lv_at hl 2 rfl) ?_
          refine lv_iconst (v := 4) hx hb dX8_takes_99 (by decide) ?_
          refine lv_iadd hx hb dX8_takes_100 ?_
          refine lv_iload_n hx hb dX8_takes_101 rfl (lv_at hl 5 rfl) ?_
          have ho_102 := hs.1; have hs := hs.2
          refine va_iast hx hb hK hP hD hS 0 0 rfl rfl (i := (v_9 + 4)) (x := p2) (ho_102) dX8_takes_102 (fun H locs hP hD hS => ?_)
          have hP : va_P D vwCl (lt_Ro yI b 532 (upd (upd (upd (upd (upd f (v_9 + 0).toNatClampNeg p1) (v_9 + 1).toNatClampNeg (v_39 / 10)) (v_9 + 2).toNatClampNeg 1) (v_9 + 3).toNatClampNeg ((upd (upd (upd f (v_9 + 0).toNatClampNeg p1) (v_9 + 1).toNatClampNeg (v_39 / 10)) (v_9 + 2).toNatClampNeg 1) 3)) (v_9 + 4).toNatClampNeg p2)) H := hP
          have hD : va_D A (lt_Ro yI b 532 (upd (upd (upd (upd (upd f (v_9 + 0).toNatClampNeg p1) (v_9 + 1).toNatClampNeg (v_39 / 10)) (v_9 + 2).toNatClampNeg 1) (v_9 + 3).toNatClampNeg ((upd (upd (upd f (v_9 + 0).toNatClampNeg p1) (v_9 + 1).toNatClampNeg (v_39 / 10)) (v_9 + 2).toNatClampNeg 1) 3)) (v_9 + 4).toNatClampNeg p2)) := hD
          refine lv_aload_n hx hb dX8_takes_103 rfl (lv_at hl 3 rfl) ?_
          refine lv_iconst (v := 2) hx hb dX8_takes_104 (by decide) ?_
          refine lv_dup2_11 hx hb dX8_takes_105 rfl rfl ?_
          refine va_iald hx hb hK hP 0 0 rfl rfl (i := 2) (vp_in_iff.mpr (by decide)) dX8_takes_106 ?_
          refine lt_top (y := ((upd (upd (upd (upd (upd f (v_9 + 0).toNatClampNeg p1) (v_9 + 1).toNatClampNeg (v_39 / 10)) (v_9 + 2).toNatClampNeg 1) (v_9 + 3).toNatClampNeg ((upd (upd (upd f (v_9 + 0).toNatClampNeg p1) (v_9 + 1).toNatClampNeg (v_39 / 10)) (v_9 + 2).toNatClampNeg 1) 3)) (v_9 + 4).toNatClampNeg p2) 2)) rfl ?_
          refine lv_iconst (v := 1) hx hb dX8_takes_107 (by decide) ?_
          refine lv_iadd hx hb dX8_takes_108 ?_
          refine va_iast hx hb hK hP hD hS 0 0 rfl rfl (i := 2) (x := (((upd (upd (upd (upd (upd f (v_9 + 0).toNatClampNeg p1) (v_9 + 1).toNatClampNeg (v_39 / 10)) (v_9 + 2).toNatClampNeg 1) (v_9 + 3).toNatClampNeg ((upd (upd (upd f (v_9 + 0).toNatClampNeg p1) (v_9 + 1).toNatClampNeg (v_39 / 10)) (v_9 + 2).toNatClampNeg 1) 3)) (v_9 + 4).toNatClampNeg p2) 2) + 1)) (vp_in_iff.mpr (by decide)) dX8_takes_109 (fun H locs hP hD hS => ?_)
          have hP : va_P D vwCl (lt_Ro yI b 532 (upd (upd (upd (upd (upd (upd f (v_9 + 0).toNatClampNeg p1) (v_9 + 1).toNatClampNeg (v_39 / 10)) (v_9 + 2).toNatClampNeg 1) (v_9 + 3).toNatClampNeg ((upd (upd (upd f (v_9 + 0).toNatClampNeg p1) (v_9 + 1).toNatClampNeg (v_39 / 10)) (v_9 + 2).toNatClampNeg 1) 3)) (v_9 + 4).toNatClampNeg p2) 2 (((upd (upd (upd (upd (upd f (v_9 + 0).toNatClampNeg p1) (v_9 + 1).toNatClampNeg (v_39 / 10)) (v_9 + 2).toNatClampNeg 1) (v_9 + 3).toNatClampNeg ((upd (upd (upd f (v_9 + 0).toNatClampNeg p1) (v_9 + 1).toNatClampNeg (v_39 / 10)) (v_9 + 2).toNatClampNeg 1) 3)) (v_9 + 4).toNatClampNeg p2) 2) + 1))) H := hP
          have hD : va_D A (lt_Ro yI b 532 (upd (upd (upd (upd (upd (upd f (v_9 + 0).toNatClampNeg p1) (v_9 + 1).toNatClampNeg (v_39 / 10)) (v_9 + 2).toNatClampNeg 1) (v_9 + 3).toNatClampNeg ((upd (upd (upd f (v_9 + 0).toNatClampNeg p1) (v_9 + 1).toNatClampNeg (v_39 / 10)) (v_9 + 2).toNatClampNeg 1) 3)) (v_9 + 4).toNatClampNeg p2) 2 (((upd (upd (upd (upd (upd f (v_9 + 0).toNatClampNeg p1) (v_9 + 1).toNatClampNeg (v_39 / 10)) (v_9 + 2).toNatClampNeg 1) (v_9 + 3).toNatClampNeg ((upd (upd (upd f (v_9 + 0).toNatClampNeg p1) (v_9 + 1).toNatClampNeg (v_39 / 10)) (v_9 + 2).toNatClampNeg 1) 3)) (v_9 + 4).toNatClampNeg p2) 2) + 1))) := hD
          exact W.vret hx hb hret (fun t ht hW => ⟨⟨((upd (upd (upd (upd (upd (upd f (v_9 + 0).toNatClampNeg p1) (v_9 + 1).toNatClampNeg (v_39 / 10)) (v_9 + 2).toNatClampNeg 1) (v_9 + 3).toNatClampNeg ((upd (upd (upd f (v_9 + 0).toNatClampNeg p1) (v_9 + 1).toNatClampNeg (v_39 / 10)) (v_9 + 2).toNatClampNeg 1) 3)) (v_9 + 4).toNatClampNeg p2) 2 (((upd (upd (upd (upd (upd f (v_9 + 0).toNatClampNeg p1) (v_9 + 1).toNatClampNeg (v_39 / 10)) (v_9 + 2).toNatClampNeg 1) (v_9 + 3).toNatClampNeg ((upd (upd (upd f (v_9 + 0).toNatClampNeg p1) (v_9 + 1).toNatClampNeg (v_39 / 10)) (v_9 + 2).toNatClampNeg 1) 3)) (v_9 + 4).toNatClampNeg p2) 2) + 1))), rfl, (by subst e_v_39 e_r_28 e_v_9; exact (Eq.symm (Eq.trans (if_neg c_12) (Eq.trans (if_neg c_55) (Eq.trans (if_pos c_60) (Eq.trans (if_neg c_80) rfl)))))), by rw [ht]; exact hP, hD⟩, hS.F ht⟩) hS.2.2 dX8_takes_110
      · have hs := hs.2 c_60
        refine lv_iload hx hb dX8_takes_63 (lv_at hl 0 rfl) ?_
        refine lv_goto (tgt := 73) hx hb dX8_takes_65 (by decide) ?_
        have ho_73 := hs.1; have hs := hs.2
        refine va_iast hx hb hK hP hD hS 0 0 rfl rfl (i := (v_9 + 1)) (x := v_39) (ho_73) dX8_takes_73 (fun H locs hP hD hS => ?_)
        have hP : va_P D vwCl (lt_Ro yI b 532 (upd (upd f (v_9 + 0).toNatClampNeg p1) (v_9 + 1).toNatClampNeg v_39)) H := hP
        have hD : va_D A (lt_Ro yI b 532 (upd (upd f (v_9 + 0).toNatClampNeg p1) (v_9 + 1).toNatClampNeg v_39)) := hD
        refine lv_aload_n hx hb dX8_takes_74 rfl (lv_at hl 3 rfl) ?_
        refine lv_iload_n hx hb dX8_takes_75 rfl (lv_at hl 2 rfl) ?_
        refine lv_iconst (v := 2) hx hb dX8_takes_76 (by decide) ?_
        refine lv_iadd hx hb dX8_takes_77 ?_
        refine lv_iload hx hb dX8_takes_78 (lv_at hl 1 rfl) ?_
        refine lv_if_eq (tgt := 87) hx hb dX8_takes_80 (by decide) (fun c_80 => ?_) (fun c_80 => ?_)
        · have hs := hs.1 c_80
          refine lv_iconst (v := 0) hx hb dX8_takes_87 (by decide) ?_
          have ho_88 := hs.1; have hs := hs.2
          refine va_iast hx hb hK hP hD hS 0 0 rfl rfl (i := (v_9 + 2)) (x := 0) (ho_88) dX8_takes_88 (fun H locs hP hD hS => ?_)
          have hP : va_P D vwCl (lt_Ro yI b 532 (upd (upd (upd f (v_9 + 0).toNatClampNeg p1) (v_9 + 1).toNatClampNeg v_39) (v_9 + 2).toNatClampNeg 0)) H := hP
          have hD : va_D A (lt_Ro yI b 532 (upd (upd (upd f (v_9 + 0).toNatClampNeg p1) (v_9 + 1).toNatClampNeg v_39) (v_9 + 2).toNatClampNeg 0)) := hD
          refine lv_aload_n hx hb dX8_takes_89 rfl (lv_at hl 3 rfl) ?_
          refine lv_iload_n hx hb dX8_takes_90 rfl (lv_at hl 2 rfl) ?_
          refine lv_iconst (v := 3) hx hb dX8_takes_91 (by decide) ?_
          refine lv_iadd hx hb dX8_takes_92 ?_
          refine lv_aload_n hx hb dX8_takes_93 rfl (lv_at hl 3 rfl) ?_
          refine lv_iconst (v := 3) hx hb dX8_takes_94 (by decide) ?_
          refine va_iald hx hb hK hP 0 0 rfl rfl (i := 3) (vp_in_iff.mpr (by decide)) dX8_takes_95 ?_
          refine lt_top (y := ((upd (upd (upd f (v_9 + 0).toNatClampNeg p1) (v_9 + 1).toNatClampNeg v_39) (v_9 + 2).toNatClampNeg 0) 3)) rfl ?_
          have ho_96 := hs.1; have hs := hs.2
          refine va_iast hx hb hK hP hD hS 0 0 rfl rfl (i := (v_9 + 3)) (x := ((upd (upd (upd f (v_9 + 0).toNatClampNeg p1) (v_9 + 1).toNatClampNeg v_39) (v_9 + 2).toNatClampNeg 0) 3)) (ho_96) dX8_takes_96 (fun H locs hP hD hS => ?_)
          have hP : va_P D vwCl (lt_Ro yI b 532 (upd (upd (upd (upd f (v_9 + 0).toNatClampNeg p1) (v_9 + 1).toNatClampNeg v_39) (v_9 + 2).toNatClampNeg 0) (v_9 + 3).toNatClampNeg ((upd (upd (upd f (v_9 + 0).toNatClampNeg p1) (v_9 + 1).toNatClampNeg v_39) (v_9 + 2).toNatClampNeg 0) 3))) H := hP
          have hD : va_D A (lt_Ro yI b 532 (upd (upd (upd (upd f (v_9 + 0).toNatClampNeg p1) (v_9 + 1).toNatClampNeg v_39) (v_9 + 2).toNatClampNeg 0) (v_9 + 3).toNatClampNeg ((upd (upd (upd f (v_9 + 0).toNatClampNeg p1) (v_9 + 1).toNatClampNeg v_39) (v_9 + 2).toNatClampNeg 0) 3))) := hD
          refine lv_aload_n hx hb dX8_takes_97 rfl (lv_at hl 3 rfl) ?_
          refine lv_iload_n hx hb dX8_takes_98 rfl (lv_at hl 2 rfl) ?_
          refine lv_iconst (v := 4) hx hb dX8_takes_99 (by decide) ?_
          refine lv_iadd hx hb dX8_takes_100 ?_
          refine lv_iload_n hx hb dX8_takes_101 rfl (lv_at hl 5 rfl) ?_
          have ho_102 := hs.1; have hs := hs.2
          refine va_iast hx hb hK hP hD hS 0 0 rfl rfl (i := (v_9 + 4)) (x := p2) (ho_102) dX8_takes_102 (fun H locs hP hD hS => ?_)
          have hP : va_P D vwCl (lt_Ro yI b 532 (upd (upd (upd (upd (upd f (v_9 + 0).toNatClampNeg p1) (v_9 + 1).toNatClampNeg v_39) (v_9 + 2).toNatClampNeg 0) (v_9 + 3).toNatClampNeg ((upd (upd (upd f (v_9 + 0).toNatClampNeg p1) (v_9 + 1).toNatClampNeg v_39) (v_9 + 2).toNatClampNeg 0) 3)) (v_9 + 4).toNatClampNeg p2)) H := hP
          have hD : va_D A (lt_Ro yI b 532 (upd (upd (upd (upd (upd f (v_9 + 0).toNatClampNeg p1) (v_9 + 1).toNatClampNeg v_39) (v_9 + 2).toNatClampNeg 0) (v_9 + 3).toNatClampNeg ((upd (upd (upd f (v_9 + 0).toNatClampNeg p1) (v_9 + 1).toNatClampNeg v_39) (v_9 + 2).toNatClampNeg 0) 3)) (v_9 + 4).toNatClampNeg p2)) := hD
          refine lv_aload_n hx hb dX8_takes_103 rfl (lv_at hl 3 rfl) ?_
          refine lv_iconst (v := 2) hx hb dX8_takes_104 (by decide) ?_
          refine lv_dup2_11 hx hb dX8_takes_105 rfl rfl ?_
          refine va_iald hx hb hK hP 0 0 rfl rfl (i := 2) (vp_in_iff.mpr (by decide)) dX8_takes_106 ?_
          refine lt_top (y := ((upd (upd (upd (upd (upd f (v_9 + 0).toNatClampNeg p1) (v_9 + 1).toNatClampNeg v_39) (v_9 + 2).toNatClampNeg 0) (v_9 + 3).toNatClampNeg ((upd (upd (upd f (v_9 + 0).toNatClampNeg p1) (v_9 + 1).toNatClampNeg v_39) (v_9 + 2).toNatClampNeg 0) 3)) (v_9 + 4).toNatClampNeg p2) 2)) rfl ?_
          refine lv_iconst (v := 1) hx hb dX8_takes_107 (by decide) ?_
          refine lv_iadd hx hb dX8_takes_108 ?_
          refine va_iast hx hb hK hP hD hS 0 0 rfl rfl (i := 2) (x := (((upd (upd (upd (upd (upd f (v_9 + 0).toNatClampNeg p1) (v_9 + 1).toNatClampNeg v_39) (v_9 + 2).toNatClampNeg 0) (v_9 + 3).toNatClampNeg ((upd (upd (upd f (v_9 + 0).toNatClampNeg p1) (v_9 + 1).toNatClampNeg v_39) (v_9 + 2).toNatClampNeg 0) 3)) (v_9 + 4).toNatClampNeg p2) 2) + 1)) (vp_in_iff.mpr (by decide)) dX8_takes_109 (fun H locs hP hD hS => ?_)
          have hP : va_P D vwCl (lt_Ro yI b 532 (upd (upd (upd (upd (upd (upd f (v_9 + 0).toNatClampNeg p1) (v_9 + 1).toNatClampNeg v_39) (v_9 + 2).toNatClampNeg 0) (v_9 + 3).toNatClampNeg ((upd (upd (upd f (v_9 + 0).toNatClampNeg p1) (v_9 + 1).toNatClampNeg v_39) (v_9 + 2).toNatClampNeg 0) 3)) (v_9 + 4).toNatClampNeg p2) 2 (((upd (upd (upd (upd (upd f (v_9 + 0).toNatClampNeg p1) (v_9 + 1).toNatClampNeg v_39) (v_9 + 2).toNatClampNeg 0) (v_9 + 3).toNatClampNeg ((upd (upd (upd f (v_9 + 0).toNatClampNeg p1) (v_9 + 1).toNatClampNeg v_39) (v_9 + 2).toNatClampNeg 0) 3)) (v_9 + 4).toNatClampNeg p2) 2) + 1))) H := hP
          have hD : va_D A (lt_Ro yI b 532 (upd (upd (upd (upd (upd (upd f (v_9 + 0).toNatClampNeg p1) (v_9 + 1).toNatClampNeg v_39) (v_9 + 2).toNatClampNeg 0) (v_9 + 3).toNatClampNeg ((upd (upd (upd f (v_9 + 0).toNatClampNeg p1) (v_9 + 1).toNatClampNeg v_39) (v_9 + 2).toNatClampNeg 0) 3)) (v_9 + 4).toNatClampNeg p2) 2 (((upd (upd (upd (upd (upd f (v_9 + 0).toNatClampNeg p1) (v_9 + 1).toNatClampNeg v_39) (v_9 + 2).toNatClampNeg 0) (v_9 + 3).toNatClampNeg ((upd (upd (upd f (v_9 + 0).toNatClampNeg p1) (v_9 + 1).toNatClampNeg v_39) (v_9 + 2).toNatClampNeg 0) 3)) (v_9 + 4).toNatClampNeg p2) 2) + 1))) := hD
          exact W.vret hx hb hret (fun t ht hW => ⟨⟨((upd (upd (upd (upd (upd (upd f (v_9 + 0).toNatClampNeg p1) (v_9 + 1).toNatClampNeg v_39) (v_9 + 2).toNatClampNeg 0) (v_9 + 3).toNatClampNeg ((upd (upd (upd f (v_9 + 0).toNatClampNeg p1) (v_9 + 1).toNatClampNeg v_39) (v_9 + 2).toNatClampNeg 0) 3)) (v_9 + 4).toNatClampNeg p2) 2 (((upd (upd (upd (upd (upd f (v_9 + 0).toNatClampNeg p1) (v_9 + 1).toNatClampNeg v_39) (v_9 + 2).toNatClampNeg 0) (v_9 + 3).toNatClampNeg ((upd (upd (upd f (v_9 + 0).toNatClampNeg p1) (v_9 + 1).toNatClampNeg v_39) (v_9 + 2).toNatClampNeg 0) 3)) (v_9 + 4).toNatClampNeg p2) 2) + 1))), rfl, (by subst e_v_39 e_r_28 e_v_9; exact (Eq.symm (Eq.trans (if_neg c_12) (Eq.trans (if_neg c_55) (Eq.trans (if_neg c_60) (Eq.trans (if_pos c_80) rfl)))))), by rw [ht]; exact hP, hD⟩, hS.F ht⟩) hS.2.2 dX8_takes_110
        · have hs := hs.2 c_80
          refine lv_iconst (v := 1) hx hb dX8_takes_83 (by decide) ?_
          refine lv_goto (tgt := 88) hx hb dX8_takes_84 (by decide) ?_
          have ho_88 := hs.1; have hs := hs.2
          refine va_iast hx hb hK hP hD hS 0 0 rfl rfl (i := (v_9 + 2)) (x := 1) (ho_88) dX8_takes_88 (fun H locs hP hD hS => ?_)
          have hP : va_P D vwCl (lt_Ro yI b 532 (upd (upd (upd f (v_9 + 0).toNatClampNeg p1) (v_9 + 1).toNatClampNeg v_39) (v_9 + 2).toNatClampNeg 1)) H := hP
          have hD : va_D A (lt_Ro yI b 532 (upd (upd (upd f (v_9 + 0).toNatClampNeg p1) (v_9 + 1).toNatClampNeg v_39) (v_9 + 2).toNatClampNeg 1)) := hD
          refine lv_aload_n hx hb dX8_takes_89 rfl (lv_at hl 3 rfl) ?_
          refine lv_iload_n hx hb dX8_takes_90 rfl (lv_at hl 2 rfl) ?_
          refine lv_iconst (v := 3) hx hb dX8_takes_91 (by decide) ?_
          refine lv_iadd hx hb dX8_takes_92 ?_
          refine lv_aload_n hx hb dX8_takes_93 rfl (lv_at hl 3 rfl) ?_
          refine lv_iconst (v := 3) hx hb dX8_takes_94 (by decide) ?_
          refine va_iald hx hb hK hP 0 0 rfl rfl (i := 3) (vp_in_iff.mpr (by decide)) dX8_takes_95 ?_
          refine lt_top (y := ((upd (upd (upd f (v_9 + 0).toNatClampNeg p1) (v_9 + 1).toNatClampNeg v_39) (v_9 + 2).toNatClampNeg 1) 3)) rfl ?_
          have ho_96 := hs.1; have hs := hs.2
          refine va_iast hx hb hK hP hD hS 0 0 rfl rfl (i := (v_9 + 3)) (x := ((upd (upd (upd f (v_9 + 0).toNatClampNeg p1) (v_9 + 1).toNatClampNeg v_39) (v_9 + 2).toNatClampNeg 1) 3)) (ho_96) dX8_takes_96 (fun H locs hP hD hS => ?_)
          have hP : va_P D vwCl (lt_Ro yI b 532 (upd (upd (upd (upd f (v_9 + 0).toNatClampNeg p1) (v_9 + 1).toNatClampNeg v_39) (v_9 + 2).toNatClampNeg 1) (v_9 + 3).toNatClampNeg ((upd (upd (upd f (v_9 + 0).toNatClampNeg p1) (v_9 + 1).toNatClampNeg v_39) (v_9 + 2).toNatClampNeg 1) 3))) H := hP
          have hD : va_D A (lt_Ro yI b 532 (upd (upd (upd (upd f (v_9 + 0).toNatClampNeg p1) (v_9 + 1).toNatClampNeg v_39) (v_9 + 2).toNatClampNeg 1) (v_9 + 3).toNatClampNeg ((upd (upd (upd f (v_9 + 0).toNatClampNeg p1) (v_9 + 1).toNatClampNeg v_39) (v_9 + 2).toNatClampNeg 1) 3))) := hD
          refine lv_aload_n hx hb dX8_takes_97 rfl (lv_at hl 3 rfl) ?_
          refine lv_iload_n hx hb dX8_takes_98 rfl (lv_at hl 2 rfl) ?_
          refine lv_iconst (v := 4) hx hb dX8_takes_99 (by decide) ?_
          refine lv_iadd hx hb dX8_takes_100 ?_
          refine lv_iload_n hx hb dX8_takes_101 rfl (lv_at hl 5 rfl) ?_
          have ho_102 := hs.1; have hs := hs.2
          refine va_iast hx hb hK hP hD hS 0 0 rfl rfl (i := (v_9 + 4)) (x := p2) (ho_102) dX8_takes_102 (fun H locs hP hD hS => ?_)
          have hP : va_P D vwCl (lt_Ro yI b 532 (upd (upd (upd (upd (upd f (v_9 + 0).toNatClampNeg p1) (v_9 + 1).toNatClampNeg v_39) (v_9 + 2).toNatClampNeg 1) (v_9 + 3).toNatClampNeg ((upd (upd (upd f (v_9 + 0).toNatClampNeg p1) (v_9 + 1).toNatClampNeg v_39) (v_9 + 2).toNatClampNeg 1) 3)) (v_9 + 4).toNatClampNeg p2)) H := hP
          have hD : va_D A (lt_Ro yI b 532 (upd (upd (upd (upd (upd f (v_9 + 0).toNatClampNeg p1) (v_9 + 1).toNatClampNeg v_39) (v_9 + 2).toNatClampNeg 1) (v_9 + 3).toNatClampNeg ((upd (upd (upd f (v_9 + 0).toNatClampNeg p1) (v_9 + 1).toNatClampNeg v_39) (v_9 + 2).toNatClampNeg 1) 3)) (v_9 + 4).toNatClampNeg p2)) := hD
          refine lv_aload_n hx hb dX8_takes_103 rfl (lv_at hl 3 rfl) ?_
          refine lv_iconst (v := 2) hx hb dX8_takes_104 (by decide) ?_
          refine lv_dup2_11 hx hb dX8_takes_105 rfl rfl ?_
          refine va_iald hx hb hK hP 0 0 rfl rfl (i := 2) (vp_in_iff.mpr (by decide)) dX8_takes_106 ?_
          refine lt_top (y := ((upd (upd (upd (upd (upd f (v_9 + 0).toNatClampNeg p1) (v_9 + 1).toNatClampNeg v_39) (v_9 + 2).toNatClampNeg 1) (v_9 + 3).toNatClampNeg ((upd (upd (upd f (v_9 + 0).toNatClampNeg p1) (v_9 + 1).toNatClampNeg v_39) (v_9 + 2).toNatClampNeg 1) 3)) (v_9 + 4).toNatClampNeg p2) 2)) rfl ?_
          refine lv_iconst (v := 1) hx hb dX8_takes_107 (by decide) ?_
          refine lv_iadd hx hb dX8_takes_108 ?_
          refine va_iast hx hb hK hP hD hS 0 0 rfl rfl (i := 2) (x := (((upd (upd (upd (upd (upd f (v_9 + 0).toNatClampNeg p1) (v_9 + 1).toNatClampNeg v_39) (v_9 + 2).toNatClampNeg 1) (v_9 + 3).toNatClampNeg ((upd (upd (upd f (v_9 + 0).toNatClampNeg p1) (v_9 + 1).toNatClampNeg v_39) (v_9 + 2).toNatClampNeg 1) 3)) (v_9 + 4).toNatClampNeg p2) 2) + 1)) (vp_in_iff.mpr (by decide)) dX8_takes_109 (fun H locs hP hD hS => ?_)
          have hP : va_P D vwCl (lt_Ro yI b 532 (upd (upd (upd (upd (upd (upd f (v_9 + 0).toNatClampNeg p1) (v_9 + 1).toNatClampNeg v_39) (v_9 + 2).toNatClampNeg 1) (v_9 + 3).toNatClampNeg ((upd (upd (upd f (v_9 + 0).toNatClampNeg p1) (v_9 + 1).toNatClampNeg v_39) (v_9 + 2).toNatClampNeg 1) 3)) (v_9 + 4).toNatClampNeg p2) 2 (((upd (upd (upd (upd (upd f (v_9 + 0).toNatClampNeg p1) (v_9 + 1).toNatClampNeg v_39) (v_9 + 2).toNatClampNeg 1) (v_9 + 3).toNatClampNeg ((upd (upd (upd f (v_9 + 0).toNatClampNeg p1) (v_9 + 1).toNatClampNeg v_39) (v_9 + 2).toNatClampNeg 1) 3)) (v_9 + 4).toNatClampNeg p2) 2) + 1))) H := hP
          have hD : va_D A (lt_Ro yI b 532 (upd (upd (upd (upd (upd (upd f (v_9 + 0).toNatClampNeg p1) (v_9 + 1).toNatClampNeg v_39) (v_9 + 2).toNatClampNeg 1) (v_9 + 3).toNatClampNeg ((upd (upd (upd f (v_9 + 0).toNatClampNeg p1) (v_9 + 1).toNatClampNeg v_39) (v_9 + 2).toNatClampNeg 1) 3)) (v_9 + 4).toNatClampNeg p2) 2 (((upd (upd (upd (upd (upd f (v_9 + 0).toNatClampNeg p1) (v_9 + 1).toNatClampNeg v_39) (v_9 + 2).toNatClampNeg 1) (v_9 + 3).toNatClampNeg ((upd (upd (upd f (v_9 + 0).toNatClampNeg p1) (v_9 + 1).toNatClampNeg v_39) (v_9 + 2).toNatClampNeg 1) 3)) (v_9 + 4).toNatClampNeg p2) 2) + 1))) := hD
          exact W.vret hx hb hret (fun t ht hW => ⟨⟨((upd (upd (upd (upd (upd (upd f (v_9 + 0).toNatClampNeg p1) (v_9 + 1).toNatClampNeg v_39) (v_9 + 2).toNatClampNeg 1) (v_9 + 3).toNatClampNeg ((upd (upd (upd f (v_9 + 0).toNatClampNeg p1) (v_9 + 1).toNatClampNeg v_39) (v_9 + 2).toNatClampNeg 1) 3)) (v_9 + 4).toNatClampNeg p2) 2 (((upd (upd (upd (upd (upd f (v_9 + 0).toNatClampNeg p1) (v_9 + 1).toNatClampNeg v_39) (v_9 + 2).toNatClampNeg 1) (v_9 + 3).toNatClampNeg ((upd (upd (upd f (v_9 + 0).toNatClampNeg p1) (v_9 + 1).toNatClampNeg v_39) (v_9 + 2).toNatClampNeg 1) 3)) (v_9 + 4).toNatClampNeg p2) 2) + 1))), rfl, (by subst e_v_39 e_r_28 e_v_9; exact (Eq.symm (Eq.trans (if_neg c_12) (Eq.trans (if_neg c_55) (Eq.trans (if_neg c_60) (Eq.trans (if_neg c_80) rfl)))))), by rw [ht]; exact hP, hD⟩, hS.F ht⟩) hS.2.2 dX8_takes_110
  · have hs := hs.1 c_12
    refine lv_aload_n hx hb dX8_takes_15 rfl (lv_at hl 1 rfl) ?_
    refine lv_iconst (v := 1) hx hb dX8_takes_16 (by decide) ?_
    refine va_iald hx hb hK hP 0 0 rfl rfl (i := 1) (vp_in_iff.mpr (by decide)) dX8_takes_17 ?_
    refine lt_top (y := (f 1)) rfl ?_
    refine lv_goto (tgt := 28) hx hb dX8_takes_18 (by decide) ?_
    have ho_28 := hs.1; have hs := hs.2
    have hPc := hP.sub (ws' := lt_Ro yI b 532 f) [0] rfl
    refine lt_cR (va_runS (As := [.ref b, .int (f 1)]) (rest := []) ⟨hx, hb, hml, hown, hts⟩ (c_X8_isGood l D yI yC yO b f (f 1) ho_28) (va_cwS 2 hts gX8_takes_X8_isGood rfl rfl rfl (by decide +kernel) ⟨Nat.le_of_ble_eq_true rfl, Nat.le_of_ble_eq_true rfl⟩) (lt_pS hK0 hPc) rfl rfl hl.1 rfl (lv_room (Nat.le_of_ble_eq_true rfl)) dX8_takes_28 ⟨Nat.zero_le _, Nat.zero_le _⟩) (fun r_28 e_r_28 => ?_)
    have hs := hs r_28 e_r_28
    refine lv_istore (lv' := [(4, .int r_28), (3, .int v_9), (0, .ref b), (1, .int p1), (2, .int p2)]) hx hb dX8_takes_31 hl (by decide) rfl (fun ls hl => ?_)
    refine lv_aload_n hx hb dX8_takes_33 rfl (lv_at hl 2 rfl) ?_
    refine lv_bipush (v := 72) hx hb dX8_takes_34 (by decide) ?_
    refine lv_iload_n hx hb dX8_takes_36 rfl (lv_at hl 3 rfl) ?_
    refine lv_iadd hx hb dX8_takes_37 ?_
    have ho_38 := hs.1; have hs := hs.2
    refine va_iald hx hb hK hP 0 0 rfl rfl (i := (72 + p1)) (ho_38) dX8_takes_38 ?_
    refine lv_topi (fun v_39 e_v_39 => ?_)
    have hs := hs v_39 e_v_39
    refine lv_istore (lv' := [(5, .int v_39), (4, .int r_28), (3, .int v_9), (0, .ref b), (1, .int p1), (2, .int p2)]) hx hb dX8_takes_39 hl (by decide) rfl (fun ls hl => ?_)
    refine lv_aload_n hx hb dX8_takes_41 rfl (lv_at hl 3 rfl) ?_
    refine lv_iload_n hx hb dX8_takes_42 rfl (lv_at hl 2 rfl) ?_
    refine lv_iconst (v := 0) hx hb dX8_takes_43 (by decide) ?_
    refine lv_iadd hx hb dX8_takes_44 ?_
    refine lv_iload_n hx hb dX8_takes_45 rfl (lv_at hl 4 rfl) ?_
    have ho_46 := hs.1; have hs := hs.2
    refine va_iast hx hb hK hP hD hS 0 0 rfl rfl (i := (v_9 + 0)) (x := p1) (ho_46) dX8_takes_46 (fun H locs hP hD hS => ?_)
    have hP : va_P D vwCl (lt_Ro yI b 532 (upd f (v_9 + 0).toNatClampNeg p1)) H := hP
    have hD : va_D A (lt_Ro yI b 532 (upd f (v_9 + 0).toNatClampNeg p1)) := hD
    refine lv_aload_n hx hb dX8_takes_47 rfl (lv_at hl 3 rfl) ?_
    refine lv_iload_n hx hb dX8_takes_48 rfl (lv_at hl 2 rfl) ?_
    refine lv_iconst (v := 1) hx hb dX8_takes_49 (by decide) ?_
    refine lv_iadd hx hb dX8_takes_50 ?_
    refine lv_iload hx hb dX8_takes_51 (lv_at hl 0 rfl) ?_
    refine lv_bipush (v := (-5)) hx hb dX8_takes_53 (by decide) ?_
    refine lv_icmp_eq (tgt := 63) hx hb dX8_takes_55 (by decide) (fun c_55 => ?_) (fun c_55 => ?_)
    · have hs := hs.1 c_55
      refine lv_iload hx hb dX8_takes_63 (lv_at hl 0 rfl) ?_
      refine lv_goto (tgt := 73) hx hb dX8_takes_65 (by decide) ?_
      have ho_73 := hs.1; have hs := hs.2
      refine va_iast hx hb hK hP hD hS 0 0 rfl rfl (i := (v_9 + 1)) (x := v_39) (ho_73) dX8_takes_73 (fun H locs hP hD hS => ?_)
      have hP : va_P D vwCl (lt_Ro yI b 532 (upd (upd f (v_9 + 0).toNatClampNeg p1) (v_9 + 1).toNatClampNeg v_39)) H := hP
      have hD : va_D A (lt_Ro yI b 532 (upd (upd f (v_9 + 0).toNatClampNeg p1) (v_9 + 1).toNatClampNeg v_39)) := hD
      refine lv_aload_n hx hb dX8_takes_74 rfl (lv_at hl 3 rfl) ?_
      refine lv_iload_n hx hb dX8_takes_75 rfl (lv_at hl 2 rfl) ?_
      refine lv_iconst (v := 2) hx hb dX8_takes_76 (by decide) ?_
      refine lv_iadd hx hb dX8_takes_77 ?_
      refine lv_iload hx hb dX8_takes_78 (lv_at hl 1 rfl) ?_
      refine lv_if_eq (tgt := 87) hx hb dX8_takes_80 (by decide) (fun c_80 => ?_) (fun c_80 => ?_)
      · have hs := hs.1 c_80
        refine lv_iconst (v := 0) hx hb dX8_takes_87 (by decide) ?_
        have ho_88 := hs.1; have hs := hs.2
        refine va_iast hx hb hK hP hD hS 0 0 rfl rfl (i := (v_9 + 2)) (x := 0) (ho_88) dX8_takes_88 (fun H locs hP hD hS => ?_)
        have hP : va_P D vwCl (lt_Ro yI b 532 (upd (upd (upd f (v_9 + 0).toNatClampNeg p1) (v_9 + 1).toNatClampNeg v_39) (v_9 + 2).toNatClampNeg 0)) H := hP
        have hD : va_D A (lt_Ro yI b 532 (upd (upd (upd f (v_9 + 0).toNatClampNeg p1) (v_9 + 1).toNatClampNeg v_39) (v_9 + 2).toNatClampNeg 0)) := hD
        refine lv_aload_n hx hb dX8_takes_89 rfl (lv_at hl 3 rfl) ?_
        refine lv_iload_n hx hb dX8_takes_90 rfl (lv_at hl 2 rfl) ?_
        refine lv_iconst (v := 3) hx hb dX8_takes_91 (by decide) ?_
        refine lv_iadd hx hb dX8_takes_92 ?_
        refine lv_aload_n hx hb dX8_takes_93 rfl (lv_at hl 3 rfl) ?_
        refine lv_iconst (v := 3) hx hb dX8_takes_94 (by decide) ?_
        refine va_iald hx hb hK hP 0 0 rfl rfl (i := 3) (vp_in_iff.mpr (by decide)) dX8_takes_95 ?_
        refine lt_top (y := ((upd (upd (upd f (v_9 + 0).toNatClampNeg p1) (v_9 + 1).toNatClampNeg v_39) (v_9 + 2).toNatClampNeg 0) 3)) rfl ?_
        have ho_96 := hs.1; have hs := hs.2
        refine va_iast hx hb hK hP hD hS 0 0 rfl rfl (i := (v_9 + 3)) (x := ((upd (upd (upd f (v_9 + 0).toNatClampNeg p1) (v_9 + 1).toNatClampNeg v_39) (v_9 + 2).toNatClampNeg 0) 3)) (ho_96) dX8_takes_96 (fun H locs hP hD hS => ?_)
        have hP : va_P D vwCl (lt_Ro yI b 532 (upd (upd (upd (upd f (v_9 + 0).toNatClampNeg p1) (v_9 + 1).toNatClampNeg v_39) (v_9 + 2).toNatClampNeg 0) (v_9 + 3).toNatClampNeg ((upd (upd (upd f (v_9 + 0).toNatClampNeg p1) (v_9 + 1).toNatClampNeg v_39) (v_9 + 2).toNatClampNeg 0) 3))) H := hP
        have hD : va_D A (lt_Ro yI b 532 (upd (upd (upd (upd f (v_9 + 0).toNatClampNeg p1) (v_9 + 1).toNatClampNeg v_39) (v_9 + 2).toNatClampNeg 0) (v_9 + 3).toNatClampNeg ((upd (upd (upd f (v_9 + 0).toNatClampNeg p1) (v_9 + 1).toNatClampNeg v_39) (v_9 + 2).toNatClampNeg 0) 3))) := hD
        refine lv_aload_n hx hb dX8_takes_97 rfl (lv_at hl 3 rfl) ?_
        refine lv_iload_n hx hb dX8_takes_98 rfl (lv_at hl 2 rfl) ?_
        refine lv_iconst (v := 4) hx hb dX8_takes_99 (by decide) ?_
        refine lv_iadd hx hb dX8_takes_100 ?_
        refine lv_iload_n hx hb dX8_takes_101 rfl (lv_at hl 5 rfl) ?_
        have ho_102 := hs.1; have hs := hs.2
        refine va_iast hx hb hK hP hD hS 0 0 rfl rfl (i := (v_9 + 4)) (x := p2) (ho_102) dX8_takes_102 (fun H locs hP hD hS => ?_)
        have hP : va_P D vwCl (lt_Ro yI b 532 (upd (upd (upd (upd (upd f (v_9 + 0).toNatClampNeg p1) (v_9 + 1).toNatClampNeg v_39) (v_9 + 2).toNatClampNeg 0) (v_9 + 3).toNatClampNeg ((upd (upd (upd f (v_9 + 0).toNatClampNeg p1) (v_9 + 1).toNatClampNeg v_39) (v_9 + 2).toNatClampNeg 0) 3)) (v_9 + 4).toNatClampNeg p2)) H := hP
        have hD : va_D A (lt_Ro yI b 532 (upd (upd (upd (upd (upd f (v_9 + 0).toNatClampNeg p1) (v_9 + 1).toNatClampNeg v_39) (v_9 + 2).toNatClampNeg 0) (v_9 + 3).toNatClampNeg ((upd (upd (upd f (v_9 + 0).toNatClampNeg p1) (v_9 + 1).toNatClampNeg v_39) (v_9 + 2).toNatClampNeg 0) 3)) (v_9 + 4).toNatClampNeg p2)) := hD
        refine lv_aload_n hx hb dX8_takes_103 rfl (lv_at hl 3 rfl) ?_
        refine lv_iconst (v := 2) hx hb dX8_takes_104 (by decide) ?_
        refine lv_dup2_11 hx hb dX8_takes_105 rfl rfl ?_
        refine va_iald hx hb hK hP 0 0 rfl rfl (i := 2) (vp_in_iff.mpr (by decide)) dX8_takes_106 ?_
        refine lt_top (y := ((upd (upd (upd (upd (upd f (v_9 + 0).toNatClampNeg p1) (v_9 + 1).toNatClampNeg v_39) (v_9 + 2).toNatClampNeg 0) (v_9 + 3).toNatClampNeg ((upd (upd (upd f (v_9 + 0).toNatClampNeg p1) (v_9 + 1).toNatClampNeg v_39) (v_9 + 2).toNatClampNeg 0) 3)) (v_9 + 4).toNatClampNeg p2) 2)) rfl ?_
        refine lv_iconst (v := 1) hx hb dX8_takes_107 (by decide) ?_
        refine lv_iadd hx hb dX8_takes_108 ?_
        refine va_iast hx hb hK hP hD hS 0 0 rfl rfl (i := 2) (x := (((upd (upd (upd (upd (upd f (v_9 + 0).toNatClampNeg p1) (v_9 + 1).toNatClampNeg v_39) (v_9 + 2).toNatClampNeg 0) (v_9 + 3).toNatClampNeg ((upd (upd (upd f (v_9 + 0).toNatClampNeg p1) (v_9 + 1).toNatClampNeg v_39) (v_9 + 2).toNatClampNeg 0) 3)) (v_9 + 4).toNatClampNeg p2) 2) + 1)) (vp_in_iff.mpr (by decide)) dX8_takes_109 (fun H locs hP hD hS => ?_)
        have hP : va_P D vwCl (lt_Ro yI b 532 (upd (upd (upd (upd (upd (upd f (v_9 + 0).toNatClampNeg p1) (v_9 + 1).toNatClampNeg v_39) (v_9 + 2).toNatClampNeg 0) (v_9 + 3).toNatClampNeg ((upd (upd (upd f (v_9 + 0).toNatClampNeg p1) (v_9 + 1).toNatClampNeg v_39) (v_9 + 2).toNatClampNeg 0) 3)) (v_9 + 4).toNatClampNeg p2) 2 (((upd (upd (upd (upd (upd f (v_9 + 0).toNatClampNeg p1) (v_9 + 1).toNatClampNeg v_39) (v_9 + 2).toNatClampNeg 0) (v_9 + 3).toNatClampNeg ((upd (upd (upd f (v_9 + 0).toNatClampNeg p1) (v_9 + 1).toNatClampNeg v_39) (v_9 + 2).toNatClampNeg 0) 3)) (v_9 + 4).toNatClampNeg p2) 2) + 1))) H := hP
        have hD : va_D A (lt_Ro yI b 532 (upd (upd (upd (upd (upd (upd f (v_9 + 0).toNatClampNeg p1) (v_9 + 1).toNatClampNeg v_39) (v_9 + 2).toNatClampNeg 0) (v_9 + 3).toNatClampNeg ((upd (upd (upd f (v_9 + 0).toNatClampNeg p1) (v_9 + 1).toNatClampNeg v_39) (v_9 + 2).toNatClampNeg 0) 3)) (v_9 + 4).toNatClampNeg p2) 2 (((upd (upd (upd (upd (upd f (v_9 + 0).toNatClampNeg p1) (v_9 + 1).toNatClampNeg v_39) (v_9 + 2).toNatClampNeg 0) (v_9 + 3).toNatClampNeg ((upd (upd (upd f (v_9 + 0).toNatClampNeg p1) (v_9 + 1).toNatClampNeg v_39) (v_9 + 2).toNatClampNeg 0) 3)) (v_9 + 4).toNatClampNeg p2) 2) + 1))) := hD
        exact W.vret hx hb hret (fun t ht hW => ⟨⟨((upd (upd (upd (upd (upd (upd f (v_9 + 0).toNatClampNeg p1) (v_9 + 1).toNatClampNeg v_39) (v_9 + 2).toNatClampNeg 0) (v_9 + 3).toNatClampNeg ((upd (upd (upd f (v_9 + 0).toNatClampNeg p1) (v_9 + 1).toNatClampNeg v_39) (v_9 + 2).toNatClampNeg 0) 3)) (v_9 + 4).toNatClampNeg p2) 2 (((upd (upd (upd (upd (upd f (v_9 + 0).toNatClampNeg p1) (v_9 + 1).toNatClampNeg v_39) (v_9 + 2).toNatClampNeg 0) (v_9 + 3).toNatClampNeg ((upd (upd (upd f (v_9 + 0).toNatClampNeg p1) (v_9 + 1).toNatClampNeg v_39) (v_9 + 2).toNatClampNeg 0) 3)) (v_9 + 4).toNatClampNeg p2) 2) + 1))), rfl, (by subst e_v_39 e_r_28 e_v_9; exact (Eq.symm (Eq.trans (if_pos c_12) (Eq.trans (if_pos c_55) (Eq.trans (if_pos c_80) rfl))))), by rw [ht]; exact hP, hD⟩, hS.F ht⟩) hS.2.2 dX8_takes_110
      · have hs := hs.2 c_80
        refine lv_iconst (v := 1) hx hb dX8_takes_83 (by decide) ?_
        refine lv_goto (tgt := 88) hx hb dX8_takes_84 (by decide) ?_
        have ho_88 := hs.1; have hs := hs.2
        refine va_iast hx hb hK hP hD hS 0 0 rfl rfl (i := (v_9 + 2)) (x := 1) (ho_88) dX8_takes_88 (fun H locs hP hD hS => ?_)
        have hP : va_P D vwCl (lt_Ro yI b 532 (upd (upd (upd f (v_9 + 0).toNatClampNeg p1) (v_9 + 1).toNatClampNeg v_39) (v_9 + 2).toNatClampNeg 1)) H := hP
        have hD : va_D A (lt_Ro yI b 532 (upd (upd (upd f (v_9 + 0).toNatClampNeg p1) (v_9 + 1).toNatClampNeg v_39) (v_9 + 2).toNatClampNeg 1)) := hD
        refine lv_aload_n hx hb dX8_takes_89 rfl (lv_at hl 3 rfl) ?_
        refine lv_iload_n hx hb dX8_takes_90 rfl (lv_at hl 2 rfl) ?_
        refine lv_iconst (v := 3) hx hb dX8_takes_91 (by decide) ?_
        refine lv_iadd hx hb dX8_takes_92 ?_
        refine lv_aload_n hx hb dX8_takes_93 rfl (lv_at hl 3 rfl) ?_
        refine lv_iconst (v := 3) hx hb dX8_takes_94 (by decide) ?_
        refine va_iald hx hb hK hP 0 0 rfl rfl (i := 3) (vp_in_iff.mpr (by decide)) dX8_takes_95 ?_
        refine lt_top (y := ((upd (upd (upd f (v_9 + 0).toNatClampNeg p1) (v_9 + 1).toNatClampNeg v_39) (v_9 + 2).toNatClampNeg 1) 3)) rfl ?_
        have ho_96 := hs.1; have hs := hs.2
        refine va_iast hx hb hK hP hD hS 0 0 rfl rfl (i := (v_9 + 3)) (x := ((upd (upd (upd f (v_9 + 0).toNatClampNeg p1) (v_9 + 1).toNatClampNeg v_39) (v_9 + 2).toNatClampNeg 1) 3)) (ho_96) dX8_takes_96 (fun H locs hP hD hS => ?_)
        have hP : va_P D vwCl (lt_Ro yI b 532 (upd (upd (upd (upd f (v_9 + 0).toNatClampNeg p1) (v_9 + 1).toNatClampNeg v_39) (v_9 + 2).toNatClampNeg 1) (v_9 + 3).toNatClampNeg ((upd (upd (upd f (v_9 + 0).toNatClampNeg p1) (v_9 + 1).toNatClampNeg v_39) (v_9 + 2).toNatClampNeg 1) 3))) H := hP
        have hD : va_D A (lt_Ro yI b 532 (upd (upd (upd (upd f (v_9 + 0).toNatClampNeg p1) (v_9 + 1).toNatClampNeg v_39) (v_9 + 2).toNatClampNeg 1) (v_9 + 3).toNatClampNeg ((upd (upd (upd f (v_9 + 0).toNatClampNeg p1) (v_9 + 1).toNatClampNeg v_39) (v_9 + 2).toNatClampNeg 1) 3))) := hD
        refine lv_aload_n hx hb dX8_takes_97 rfl (lv_at hl 3 rfl) ?_
        refine lv_iload_n hx hb dX8_takes_98 rfl (lv_at hl 2 rfl) ?_
        refine lv_iconst (v := 4) hx hb dX8_takes_99 (by decide) ?_
        refine lv_iadd hx hb dX8_takes_100 ?_
        refine lv_iload_n hx hb dX8_takes_101 rfl (lv_at hl 5 rfl) ?_
        have ho_102 := hs.1; have hs := hs.2
        refine va_iast hx hb hK hP hD hS 0 0 rfl rfl (i := (v_9 + 4)) (x := p2) (ho_102) dX8_takes_102 (fun H locs hP hD hS => ?_)
        have hP : va_P D vwCl (lt_Ro yI b 532 (upd (upd (upd (upd (upd f (v_9 + 0).toNatClampNeg p1) (v_9 + 1).toNatClampNeg v_39) (v_9 + 2).toNatClampNeg 1) (v_9 + 3).toNatClampNeg ((upd (upd (upd f (v_9 + 0).toNatClampNeg p1) (v_9 + 1).toNatClampNeg v_39) (v_9 + 2).toNatClampNeg 1) 3)) (v_9 + 4).toNatClampNeg p2)) H := hP
        have hD : va_D A (lt_Ro yI b 532 (upd (upd (upd (upd (upd f (v_9 + 0).toNatClampNeg p1) (v_9 + 1).toNatClampNeg v_39) (v_9 + 2).toNatClampNeg 1) (v_9 + 3).toNatClampNeg ((upd (upd (upd f (v_9 + 0).toNatClampNeg p1) (v_9 + 1).toNatClampNeg v_39) (v_9 + 2).toNatClampNeg 1) 3)) (v_9 + 4).toNatClampNeg p2)) := hD
        refine lv_aload_n hx hb dX8_takes_103 rfl (lv_at hl 3 rfl) ?_
        refine lv_iconst (v := 2) hx hb dX8_takes_104 (by decide) ?_
        refine lv_dup2_11 hx hb dX8_takes_105 rfl rfl ?_
        refine va_iald hx hb hK hP 0 0 rfl rfl (i := 2) (vp_in_iff.mpr (by decide)) dX8_takes_106 ?_
        refine lt_top (y := ((upd (upd (upd (upd (upd f (v_9 + 0).toNatClampNeg p1) (v_9 + 1).toNatClampNeg v_39) (v_9 + 2).toNatClampNeg 1) (v_9 + 3).toNatClampNeg ((upd (upd (upd f (v_9 + 0).toNatClampNeg p1) (v_9 + 1).toNatClampNeg v_39) (v_9 + 2).toNatClampNeg 1) 3)) (v_9 + 4).toNatClampNeg p2) 2)) rfl ?_
        refine lv_iconst (v := 1) hx hb dX8_takes_107 (by decide) ?_
        refine lv_iadd hx hb dX8_takes_108 ?_
        refine va_iast hx hb hK hP hD hS 0 0 rfl rfl (i := 2) (x := (((upd (upd (upd (upd (upd f (v_9 + 0).toNatClampNeg p1) (v_9 + 1).toNatClampNeg v_39) (v_9 + 2).toNatClampNeg 1) (v_9 + 3).toNatClampNeg ((upd (upd (upd f (v_9 + 0).toNatClampNeg p1) (v_9 + 1).toNatClampNeg v_39) (v_9 + 2).toNatClampNeg 1) 3)) (v_9 + 4).toNatClampNeg p2) 2) + 1)) (vp_in_iff.mpr (by decide)) dX8_takes_109 (fun H locs hP hD hS => ?_)
        have hP : va_P D vwCl (lt_Ro yI b 532 (upd (upd (upd (upd (upd (upd f (v_9 + 0).toNatClampNeg p1) (v_9 + 1).toNatClampNeg v_39) (v_9 + 2).toNatClampNeg 1) (v_9 + 3).toNatClampNeg ((upd (upd (upd f (v_9 + 0).toNatClampNeg p1) (v_9 + 1).toNatClampNeg v_39) (v_9 + 2).toNatClampNeg 1) 3)) (v_9 + 4).toNatClampNeg p2) 2 (((upd (upd (upd (upd (upd f (v_9 + 0).toNatClampNeg p1) (v_9 + 1).toNatClampNeg v_39) (v_9 + 2).toNatClampNeg 1) (v_9 + 3).toNatClampNeg ((upd (upd (upd f (v_9 + 0).toNatClampNeg p1) (v_9 + 1).toNatClampNeg v_39) (v_9 + 2).toNatClampNeg 1) 3)) (v_9 + 4).toNatClampNeg p2) 2) + 1))) H := hP
        have hD : va_D A (lt_Ro yI b 532 (upd (upd (upd (upd (upd (upd f (v_9 + 0).toNatClampNeg p1) (v_9 + 1).toNatClampNeg v_39) (v_9 + 2).toNatClampNeg 1) (v_9 + 3).toNatClampNeg ((upd (upd (upd f (v_9 + 0).toNatClampNeg p1) (v_9 + 1).toNatClampNeg v_39) (v_9 + 2).toNatClampNeg 1) 3)) (v_9 + 4).toNatClampNeg p2) 2 (((upd (upd (upd (upd (upd f (v_9 + 0).toNatClampNeg p1) (v_9 + 1).toNatClampNeg v_39) (v_9 + 2).toNatClampNeg 1) (v_9 + 3).toNatClampNeg ((upd (upd (upd f (v_9 + 0).toNatClampNeg p1) (v_9 + 1).toNatClampNeg v_39) (v_9 + 2).toNatClampNeg 1) 3)) (v_9 + 4).toNatClampNeg p2) 2) + 1))) := hD
        exact W.vret hx hb hret (fun t ht hW => ⟨⟨((upd (upd (upd (upd (upd (upd f (v_9 + 0).toNatClampNeg p1) (v_9 + 1).toNatClampNeg v_39) (v_9 + 2).toNatClampNeg 1) (v_9 + 3).toNatClampNeg ((upd (upd (upd f (v_9 + 0).toNatClampNeg p1) (v_9 + 1).toNatClampNeg v_39) (v_9 + 2).toNatClampNeg 1) 3)) (v_9 + 4).toNatClampNeg p2) 2 (((upd (upd (upd (upd (upd f (v_9 + 0).toNatClampNeg p1) (v_9 + 1).toNatClampNeg v_39) (v_9 + 2).toNatClampNeg 1) (v_9 + 3).toNatClampNeg ((upd (upd (upd f (v_9 + 0).toNatClampNeg p1) (v_9 + 1).toNatClampNeg v_39) (v_9 + 2).toNatClampNeg 1) 3)) (v_9 + 4).toNatClampNeg p2) 2) + 1))), rfl, (by subst e_v_39 e_r_28 e_v_9; exact (Eq.symm (Eq.trans (if_pos c_12) (Eq.trans (if_pos c_55) (Eq.trans (if_neg c_80) rfl))))), by rw [ht]; exact hP, hD⟩, hS.F ht⟩) hS.2.2 dX8_takes_110
    · have hs := hs.2 c_55
      refine lv_iload hx hb dX8_takes_58 (lv_at hl 1 rfl) ?_
      refine lv_if_eq (tgt := 68) hx hb dX8_takes_60 (by decide) (fun c_60 => ?_) (fun c_60 => ?_)
      · have hs := hs.1 c_60
        refine lv_iload hx hb dX8_takes_68 (lv_at hl 0 rfl) ?_
        refine lv_bipush (v := 10) hx hb dX8_takes_70 (by decide) ?_
        refine lv_idiv hx hb dX8_takes_72 (by decide) ?_
        have ho_73 := hs.1; have hs := hs.2
        refine va_iast hx hb hK hP hD hS 0 0 rfl rfl (i := (v_9 + 1)) (x := (v_39 / 10)) (ho_73) dX8_takes_73 (fun H locs hP hD hS => ?_)
        have hP : va_P D vwCl (lt_Ro yI b 532 (upd (upd f (v_9 + 0).toNatClampNeg p1) (v_9 + 1).toNatClampNeg (v_39 / 10))) H := hP
        have hD : va_D A (lt_Ro yI b 532 (upd (upd f (v_9 + 0).toNatClampNeg p1) (v_9 + 1).toNatClampNeg (v_39 / 10))) := hD
        refine lv_aload_n hx hb dX8_takes_74 rfl (lv_at hl 3 rfl) ?_
        refine lv_iload_n hx hb dX8_takes_75 rfl (lv_at hl 2 rfl) ?_
        refine lv_iconst (v := 2) hx hb dX8_takes_76 (by decide) ?_
        refine lv_iadd hx hb dX8_takes_77 ?_
        refine lv_iload hx hb dX8_takes_78 (lv_at hl 1 rfl) ?_
        refine lv_if_eq (tgt := 87) hx hb dX8_takes_80 (by decide) (fun c_80 => ?_) (fun c_80 => ?_)
        · have hs := hs.1 c_80
          refine lv_iconst (v := 0) hx hb dX8_takes_87 (by decide) ?_
          have ho_88 := hs.1; have hs := hs.2
          refine va_iast hx hb hK hP hD hS 0 0 rfl rfl (i := (v_9 + 2)) (x := 0) (ho_88) dX8_takes_88 (fun H locs hP hD hS => ?_)
          have hP : va_P D vwCl (lt_Ro yI b 532 (upd (upd (upd f (v_9 + 0).toNatClampNeg p1) (v_9 + 1).toNatClampNeg (v_39 / 10)) (v_9 + 2).toNatClampNeg 0)) H := hP
          have hD : va_D A (lt_Ro yI b 532 (upd (upd (upd f (v_9 + 0).toNatClampNeg p1) (v_9 + 1).toNatClampNeg (v_39 / 10)) (v_9 + 2).toNatClampNeg 0)) := hD
          refine lv_aload_n hx hb dX8_takes_89 rfl (lv_at hl 3 rfl) ?_
          refine lv_iload_n hx hb dX8_takes_90 rfl (lv_at hl 2 rfl) ?_
          refine lv_iconst (v := 3) hx hb dX8_takes_91 (by decide) ?_
          refine lv_iadd hx hb dX8_takes_92 ?_
          refine lv_aload_n hx hb dX8_takes_93 rfl (lv_at hl 3 rfl) ?_
          refine lv_iconst (v := 3) hx hb dX8_takes_94 (by decide) ?_
          refine va_iald hx hb hK hP 0 0 rfl rfl (i := 3) (vp_in_iff.mpr (by decide)) dX8_takes_95 ?_
          refine lt_top (y := ((upd (upd (upd f (v_9 + 0).toNatClampNeg p1) (v_9 + 1).toNatClampNeg (v_39 / 10)) (v_9 + 2).toNatClampNeg 0) 3)) rfl ?_
          have ho_96 := hs.1; have hs := hs.2
          refine va_iast hx hb hK hP hD hS 0 0 rfl rfl (i := (v_9 + 3)) (x := ((upd (upd (upd f (v_9 + 0).toNatClampNeg p1) (v_9 + 1).toNatClampNeg (v_39 / 10)) (v_9 + 2).toNatClampNeg 0) 3)) (ho_96) dX8_takes_96 (fun H locs hP hD hS => ?_)
          have hP : va_P D vwCl (lt_Ro yI b 532 (upd (upd (upd (upd f (v_9 + 0).toNatClampNeg p1) (v_9 + 1).toNatClampNeg (v_39 / 10)) (v_9 + 2).toNatClampNeg 0) (v_9 + 3).toNatClampNeg ((upd (upd (upd f (v_9 + 0).toNatClampNeg p1) (v_9 + 1).toNatClampNeg (v_39 / 10)) (v_9 + 2).toNatClampNeg 0) 3))) H := hP
          have hD : va_D A (lt_Ro yI b 532 (upd (upd (upd (upd f (v_9 + 0).toNatClampNeg p1) (v_9 + 1).toNatClampNeg (v_39 / 10)) (v_9 + 2).toNatClampNeg 0) (v_9 + 3).toNatClampNeg ((upd (upd (upd f (v_9 + 0).toNatClampNeg p1) (v_9 + 1).toNatClampNeg (v_39 / 10)) (v_9 + 2).toNatClampNeg 0) 3))) := hD
          refine lv_aload_n hx hb dX8_takes_97 rfl (lv_at hl 3 rfl) ?_
          refine lv_iload_n hx hb dX8_takes_98 rfl (lv_at hl 2 rfl) ?_
          refine lv_iconst (v := 4) hx hb dX8_takes_99 (by decide) ?_
          refine lv_iadd hx hb dX8_takes_100 ?_
          refine lv_iload_n hx hb dX8_takes_101 rfl (lv_at hl 5 rfl) ?_
          have ho_102 := hs.1; have hs := hs.2
          refine va_iast hx hb hK hP hD hS 0 0 rfl rfl (i := (v_9 + 4)) (x := p2) (ho_102) dX8_takes_102 (fun H locs hP hD hS => ?_)
          have hP : va_P D vwCl (lt_Ro yI b 532 (upd (upd (upd (upd (upd f (v_9 + 0).toNatClampNeg p1) (v_9 + 1).toNatClampNeg (v_39 / 10)) (v_9 + 2).toNatClampNeg 0) (v_9 + 3).toNatClampNeg ((upd (upd (upd f (v_9 + 0).toNatClampNeg p1) (v_9 + 1).toNatClampNeg (v_39 / 10)) (v_9 + 2).toNatClampNeg 0) 3)) (v_9 + 4).toNatClampNeg p2)) H := hP
          have hD : va_D A (lt_Ro yI b 532 (upd (upd (upd (upd (upd f (v_9 + 0).toNatClampNeg p1) (v_9 + 1).toNatClampNeg (v_39 / 10)) (v_9 + 2).toNatClampNeg 0) (v_9 + 3).toNatClampNeg ((upd (upd (upd f (v_9 + 0).toNatClampNeg p1) (v_9 + 1).toNatClampNeg (v_39 / 10)) (v_9 + 2).toNatClampNeg 0) 3)) (v_9 + 4).toNatClampNeg p2)) := hD
          refine lv_aload_n hx hb dX8_takes_103 rfl (lv_at hl 3 rfl) ?_
          refine lv_iconst (v := 2) hx hb dX8_takes_104 (by decide) ?_
          refine lv_dup2_11 hx hb dX8_takes_105 rfl rfl ?_
          refine va_iald hx hb hK hP 0 0 rfl rfl (i := 2) (vp_in_iff.mpr (by decide)) dX8_takes_106 ?_
          refine lt_top (y := ((upd (upd (upd (upd (upd f (v_9 + 0).toNatClampNeg p1) (v_9 + 1).toNatClampNeg (v_39 / 10)) (v_9 + 2).toNatClampNeg 0) (v_9 + 3).toNatClampNeg ((upd (upd (upd f (v_9 + 0).toNatClampNeg p1) (v_9 + 1).toNatClampNeg (v_39 / 10)) (v_9 + 2).toNatClampNeg 0) 3)) (v_9 + 4).toNatClampNeg p2) 2)) rfl ?_
          refine lv_iconst (v := 1) hx hb dX8_takes_107 (by decide) ?_
          refine lv_iadd hx hb dX8_takes_108 ?_
          refine va_iast hx hb hK hP hD hS 0 0 rfl rfl (i := 2) (x := (((upd (upd (upd (upd (upd f (v_9 + 0).toNatClampNeg p1) (v_9 + 1).toNatClampNeg (v_39 / 10)) (v_9 + 2).toNatClampNeg 0) (v_9 + 3).toNatClampNeg ((upd (upd (upd f (v_9 + 0).toNatClampNeg p1) (v_9 + 1).toNatClampNeg (v_39 / 10)) (v_9 + 2).toNatClampNeg 0) 3)) (v_9 + 4).toNatClampNeg p2) 2) + 1)) (vp_in_iff.mpr (by decide)) dX8_takes_109 (fun H locs hP hD hS => ?_)
          have hP : va_P D vwCl (lt_Ro yI b 532 (upd (upd (upd (upd (upd (upd f (v_9 + 0).toNatClampNeg p1) (v_9 + 1).toNatClampNeg (v_39 / 10)) (v_9 + 2).toNatClampNeg 0) (v_9 + 3).toNatClampNeg ((upd (upd (upd f (v_9 + 0).toNatClampNeg p1) (v_9 + 1).toNatClampNeg (v_39 / 10)) (v_9 + 2).toNatClampNeg 0) 3)) (v_9 + 4).toNatClampNeg p2) 2 (((upd (upd (upd (upd (upd f (v_9 + 0).toNatClampNeg p1) (v_9 + 1).toNatClampNeg (v_39 / 10)) (v_9 + 2).toNatClampNeg 0) (v_9 + 3).toNatClampNeg ((upd (upd (upd f (v_9 + 0).toNatClampNeg p1) (v_9 + 1).toNatClampNeg (v_39 / 10)) (v_9 + 2).toNatClampNeg 0) 3)) (v_9 + 4).toNatClampNeg p2) 2) + 1))) H := hP
          have hD : va_D A (lt_Ro yI b 532 (upd (upd (upd (upd (upd (upd f (v_9 + 0).toNatClampNeg p1) (v_9 + 1).toNatClampNeg (v_39 / 10)) (v_9 + 2).toNatClampNeg 0) (v_9 + 3).toNatClampNeg ((upd (upd (upd f (v_9 + 0).toNatClampNeg p1) (v_9 + 1).toNatClampNeg (v_39 / 10)) (v_9 + 2).toNatClampNeg 0) 3)) (v_9 + 4).toNatClampNeg p2) 2 (((upd (upd (upd (upd (upd f (v_9 + 0).toNatClampNeg p1) (v_9 + 1).toNatClampNeg (v_39 / 10)) (v_9 + 2).toNatClampNeg 0) (v_9 + 3).toNatClampNeg ((upd (upd (upd f (v_9 + 0).toNatClampNeg p1) (v_9 + 1).toNatClampNeg (v_39 / 10)) (v_9 + 2).toNatClampNeg 0) 3)) (v_9 + 4).toNatClampNeg p2) 2) + 1))) := hD
          exact W.vret hx hb hret (fun t ht hW => ⟨⟨((upd (upd (upd (upd (upd (upd f (v_9 + 0).toNatClampNeg p1) (v_9 + 1).toNatClampNeg (v_39 / 10)) (v_9 + 2).toNatClampNeg 0) (v_9 + 3).toNatClampNeg ((upd (upd (upd f (v_9 + 0).toNatClampNeg p1) (v_9 + 1).toNatClampNeg (v_39 / 10)) (v_9 + 2).toNatClampNeg 0) 3)) (v_9 + 4).toNatClampNeg p2) 2 (((upd (upd (upd (upd (upd f (v_9 + 0).toNatClampNeg p1) (v_9 + 1).toNatClampNeg (v_39 / 10)) (v_9 + 2).toNatClampNeg 0) (v_9 + 3).toNatClampNeg ((upd (upd (upd f (v_9 + 0).toNatClampNeg p1) (v_9 + 1).toNatClampNeg (v_39 / 10)) (v_9 + 2).toNatClampNeg 0) 3)) (v_9 + 4).toNatClampNeg p2) 2) + 1))), rfl, (by subst e_v_39 e_r_28 e_v_9; exact (Eq.symm (Eq.trans (if_pos c_12) (Eq.trans (if_neg c_55) (Eq.trans (if_pos c_60) (Eq.trans (if_pos c_80) rfl)))))), by rw [ht]; exact hP, hD⟩, hS.F ht⟩) hS.2.2 dX8_takes_110
        · have hs := hs.2 c_80
          refine lv_iconst (v := 1) hx hb dX8_takes_83 (by decide) ?_
          refine lv_goto (tgt := 88) hx hb dX8_takes_84 (by decide) ?_
          have ho_88 := hs.1; have hs := hs.2
          refine va_iast hx hb hK hP hD hS 0 0 rfl rfl (i := (v_9 + 2)) (x := 1) (ho_88) dX8_takes_88 (fun H locs hP hD hS => ?_)
          have hP : va_P D vwCl (lt_Ro yI b 532 (upd (upd (upd f (v_9 + 0).toNatClampNeg p1) (v_9 + 1).toNatClampNeg (v_39 / 10)) (v_9 + 2).toNatClampNeg 1)) H := hP
          have hD : va_D A (lt_Ro yI b 532 (upd (upd (upd f (v_9 + 0).toNatClampNeg p1) (v_9 + 1).toNatClampNeg (v_39 / 10)) (v_9 + 2).toNatClampNeg 1)) := hD
          refine lv_aload_n hx hb dX8_takes_89 rfl (lv_at hl 3 rfl) ?_
          refine lv_iload_n hx hb dX8_takes_90 rfl (lv_at hl 2 rfl) ?_
          refine lv_iconst (v := 3) hx hb dX8_takes_91 (by decide) ?_
          refine lv_iadd hx hb dX8_takes_92 ?_
          refine lv_aload_n hx hb dX8_takes_93 rfl (lv_at hl 3 rfl) ?_
          refine lv_iconst (v := 3) hx hb dX8_takes_94 (by decide) ?_
          refine va_iald hx hb hK hP 0 0 rfl rfl (i := 3) (vp_in_iff.mpr (by decide)) dX8_takes_95 ?_
          refine lt_top (y := ((upd (upd (upd f (v_9 + 0).toNatClampNeg p1) (v_9 + 1).toNatClampNeg (v_39 / 10)) (v_9 + 2).toNatClampNeg 1) 3)) rfl ?_
          have ho_96 := hs.1; have hs := hs.2
          refine va_iast hx hb hK hP hD hS 0 0 rfl rfl (i := (v_9 + 3)) (x := ((upd (upd (upd f (v_9 + 0).toNatClampNeg p1) (v_9 + 1).toNatClampNeg (v_39 / 10)) (v_9 + 2).toNatClampNeg 1) 3)) (ho_96) dX8_takes_96 (fun H locs hP hD hS => ?_)
          have hP : va_P D vwCl (lt_Ro yI b 532 (upd (upd (upd (upd f (v_9 + 0).toNatClampNeg p1) (v_9 + 1).toNatClampNeg (v_39 / 10)) (v_9 + 2).toNatClampNeg 1) (v_9 + 3).toNatClampNeg ((upd (upd (upd f (v_9 + 0).toNatClampNeg p1) (v_9 + 1).toNatClampNeg (v_39 / 10)) (v_9 + 2).toNatClampNeg 1) 3))) H := hP
          have hD : va_D A (lt_Ro yI b 532 (upd (upd (upd (upd f (v_9 + 0).toNatClampNeg p1) (v_9 + 1).toNatClampNeg (v_39 / 10)) (v_9 + 2).toNatClampNeg 1) (v_9 + 3).toNatClampNeg ((upd (upd (upd f (v_9 + 0).toNatClampNeg p1) (v_9 + 1).toNatClampNeg (v_39 / 10)) (v_9 + 2).toNatClampNeg 1) 3))) := hD
          refine lv_aload_n hx hb dX8_takes_97 rfl (lv_at hl 3 rfl) ?_
          refine lv_iload_n hx hb dX8_takes_98 rfl (lv_at hl 2 rfl) ?_
          refine lv_iconst (v := 4) hx hb dX8_takes_99 (by decide) ?_
          refine lv_iadd hx hb dX8_takes_100 ?_
          refine lv_iload_n hx hb dX8_takes_101 rfl (lv_at hl 5 rfl) ?_
          have ho_102 := hs.1; have hs := hs.2
          refine va_iast hx hb hK hP hD hS 0 0 rfl rfl (i := (v_9 + 4)) (x := p2) (ho_102) dX8_takes_102 (fun H locs hP hD hS => ?_)
          have hP : va_P D vwCl (lt_Ro yI b 532 (upd (upd (upd (upd (upd f (v_9 + 0).toNatClampNeg p1) (v_9 + 1).toNatClampNeg (v_39 / 10)) (v_9 + 2).toNatClampNeg 1) (v_9 + 3).toNatClampNeg ((upd (upd (upd f (v_9 + 0).toNatClampNeg p1) (v_9 + 1).toNatClampNeg (v_39 / 10)) (v_9 + 2).toNatClampNeg 1) 3)) (v_9 + 4).toNatClampNeg p2)) H := hP
          have hD : va_D A (lt_Ro yI b 532 (upd (upd (upd (upd (upd f (v_9 + 0).toNatClampNeg p1) (v_9 + 1).toNatClampNeg (v_39 / 10)) (v_9 + 2).toNatClampNeg 1) (v_9 + 3).toNatClampNeg ((upd (upd (upd f (v_9 + 0).toNatClampNeg p1) (v_9 + 1).toNatClampNeg (v_39 / 10)) (v_9 + 2).toNatClampNeg 1) 3)) (v_9 + 4).toNatClampNeg p2)) := hD
          refine lv_aload_n hx hb dX8_takes_103 rfl (lv_at hl 3 rfl) ?_
          refine lv_iconst (v := 2) hx hb dX8_takes_104 (by decide) ?_
          refine lv_dup2_11 hx hb dX8_takes_105 rfl rfl ?_
          refine va_iald hx hb hK hP 0 0 rfl rfl (i := 2) (vp_in_iff.mpr (by decide)) dX8_takes_106 ?_
          refine lt_top (y := ((upd (upd (upd (upd (upd f (v_9 + 0).toNatClampNeg p1) (v_9 + 1).toNatClampNeg (v_39 / 10)) (v_9 + 2).toNatClampNeg 1) (v_9 + 3).toNatClampNeg ((upd (upd (upd f (v_9 + 0).toNatClampNeg p1) (v_9 + 1).toNatClampNeg (v_39 / 10)) (v_9 + 2).toNatClampNeg 1) 3)) (v_9 + 4).toNatClampNeg p2) 2)) rfl ?_
          refine lv_iconst (v := 1) hx hb dX8_takes_107 (by decide) ?_
          refine lv_iadd hx hb dX8_takes_108 ?_
          refine va_iast hx hb hK hP hD hS 0 0 rfl rfl (i := 2) (x := (((upd (upd (upd (upd (upd f (v_9 + 0).toNatClampNeg p1) (v_9 + 1).toNatClampNeg (v_39 / 10)) (v_9 + 2).toNatClampNeg 1) (v_9 + 3).toNatClampNeg ((upd (upd (upd f (v_9 + 0).toNatClampNeg p1) (v_9 + 1).toNatClampNeg (v_39 / 10)) (v_9 + 2).toNatClampNeg 1) 3)) (v_9 + 4).toNatClampNeg p2) 2) + 1)) (vp_in_iff.mpr (by decide)) dX8_takes_109 (fun H locs hP hD hS => ?_)
          have hP : va_P D vwCl (lt_Ro yI b 532 (upd (upd (upd (upd (upd (upd f (v_9 + 0).toNatClampNeg p1) (v_9 + 1).toNatClampNeg (v_39 / 10)) (v_9 + 2).toNatClampNeg 1) (v_9 + 3).toNatClampNeg ((upd (upd (upd f (v_9 + 0).toNatClampNeg p1) (v_9 + 1).toNatClampNeg (v_39 / 10)) (v_9 + 2).toNatClampNeg 1) 3)) (v_9 + 4).toNatClampNeg p2) 2 (((upd (upd (upd (upd (upd f (v_9 + 0).toNatClampNeg p1) (v_9 + 1).toNatClampNeg (v_39 / 10)) (v_9 + 2).toNatClampNeg 1) (v_9 + 3).toNatClampNeg ((upd (upd (upd f (v_9 + 0).toNatClampNeg p1) (v_9 + 1).toNatClampNeg (v_39 / 10)) (v_9 + 2).toNatClampNeg 1) 3)) (v_9 + 4).toNatClampNeg p2) 2) + 1))) H := hP
          have hD : va_D A (lt_Ro yI b 532 (upd (upd (upd (upd (upd (upd f (v_9 + 0).toNatClampNeg p1) (v_9 + 1).toNatClampNeg (v_39 / 10)) (v_9 + 2).toNatClampNeg 1) (v_9 + 3).toNatClampNeg ((upd (upd (upd f (v_9 + 0).toNatClampNeg p1) (v_9 + 1).toNatClampNeg (v_39 / 10)) (v_9 + 2).toNatClampNeg 1) 3)) (v_9 + 4).toNatClampNeg p2) 2 (((upd (upd (upd (upd (upd f (v_9 + 0).toNatClampNeg p1) (v_9 + 1).toNatClampNeg (v_39 / 10)) (v_9 + 2).toNatClampNeg 1) (v_9 + 3).toNatClampNeg ((upd (upd (upd f (v_9 + 0).toNatClampNeg p1) (v_9 + 1).toNatClampNeg (v_39 / 10)) (v_9 + 2).toNatClampNeg 1) 3)) (v_9 + 4).toNatClampNeg p2) 2) + 1))) := hD
          exact W.vret hx hb hret (fun t ht hW => ⟨⟨((upd (upd (upd (upd (upd (upd f (v_9 + 0).toNatClampNeg p1) (v_9 + 1).toNatClampNeg (v_39 / 10)) (v_9 + 2).toNatClampNeg 1) (v_9 + 3).toNatClampNeg ((upd (upd (upd f (v_9 + 0).toNatClampNeg p1) (v_9 + 1).toNatClampNeg (v_39 / 10)) (v_9 + 2).toNatClampNeg 1) 3)) (v_9 + 4).toNatClampNeg p2) 2 (((upd (upd (upd (upd (upd f (v_9 + 0).toNatClampNeg p1) (v_9 + 1).toNatClampNeg (v_39 / 10)) (v_9 + 2).toNatClampNeg 1) (v_9 + 3).toNatClampNeg ((upd (upd (upd f (v_9 + 0).toNatClampNeg p1) (v_9 + 1).toNatClampNeg (v_39 / 10)) (v_9 + 2).toNatClampNeg 1) 3)) (v_9 + 4).toNatClampNeg p2) 2) + 1))), rfl, (by subst e_v_39 e_r_28 e_v_9; exact (Eq.symm (Eq.trans (if_pos c_12) (Eq.trans (if_neg c_55) (Eq.trans (if_pos c_60) (Eq.trans (if_neg c_80) rfl)))))), by rw [ht]; exact hP, hD⟩, hS.F ht⟩) hS.2.2 dX8_takes_110
      · have hs := hs.2 c_60
        refine lv_iload hx hb dX8_takes_63 (lv_at hl 0 rfl) ?_
        refine lv_goto (tgt := 73) hx hb dX8_takes_65 (by decide) ?_
        have ho_73 := hs.1; have hs := hs.2
        refine va_iast hx hb hK hP hD hS 0 0 rfl rfl (i := (v_9 + 1)) (x := v_39) (ho_73) dX8_takes_73 (fun H locs hP hD hS => ?_)
        have hP : va_P D vwCl (lt_Ro yI b 532 (upd (upd f (v_9 + 0).toNatClampNeg p1) (v_9 + 1).toNatClampNeg v_39)) H := hP
        have hD : va_D A (lt_Ro yI b 532 (upd (upd f (v_9 + 0).toNatClampNeg p1) (v_9 + 1).toNatClampNeg v_39)) := hD
        refine lv_aload_n hx hb dX8_takes_74 rfl (lv_at hl 3 rfl) ?_
        refine lv_iload_n hx hb dX8_takes_75 rfl (lv_at hl 2 rfl) ?_
        refine lv_iconst (v := 2) hx hb dX8_takes_76 (by decide) ?_
        refine lv_iadd hx hb dX8_takes_77 ?_
        refine lv_iload hx hb dX8_takes_78 (lv_at hl 1 rfl) ?_
        refine lv_if_eq (tgt := 87) hx hb dX8_takes_80 (by decide) (fun c_80 => ?_) (fun c_80 => ?_)
        · have hs := hs.1 c_80
          refine lv_iconst (v := 0) hx hb dX8_takes_87 (by decide) ?_
          have ho_88 := hs.1; have hs := hs.2
          refine va_iast hx hb hK hP hD hS 0 0 rfl rfl (i := (v_9 + 2)) (x := 0) (ho_88) dX8_takes_88 (fun H locs hP hD hS => ?_)
          have hP : va_P D vwCl (lt_Ro yI b 532 (upd (upd (upd f (v_9 + 0).toNatClampNeg p1) (v_9 + 1).toNatClampNeg v_39) (v_9 + 2).toNatClampNeg 0)) H := hP
          have hD : va_D A (lt_Ro yI b 532 (upd (upd (upd f (v_9 + 0).toNatClampNeg p1) (v_9 + 1).toNatClampNeg v_39) (v_9 + 2).toNatClampNeg 0)) := hD
          refine lv_aload_n hx hb dX8_takes_89 rfl (lv_at hl 3 rfl) ?_
          refine lv_iload_n hx hb dX8_takes_90 rfl (lv_at hl 2 rfl) ?_
          refine lv_iconst (v := 3) hx hb dX8_takes_91 (by decide) ?_
          refine lv_iadd hx hb dX8_takes_92 ?_
          refine lv_aload_n hx hb dX8_takes_93 rfl (lv_at hl 3 rfl) ?_
          refine lv_iconst (v := 3) hx hb dX8_takes_94 (by decide) ?_
          refine va_iald hx hb hK hP 0 0 rfl rfl (i := 3) (vp_in_iff.mpr (by decide)) dX8_takes_95 ?_
          refine lt_top (y := ((upd (upd (upd f (v_9 + 0).toNatClampNeg p1) (v_9 + 1).toNatClampNeg v_39) (v_9 + 2).toNatClampNeg 0) 3)) rfl ?_
          have ho_96 := hs.1; have hs := hs.2
          refine va_iast hx hb hK hP hD hS 0 0 rfl rfl (i := (v_9 + 3)) (x := ((upd (upd (upd f (v_9 + 0).toNatClampNeg p1) (v_9 + 1).toNatClampNeg v_39) (v_9 + 2).toNatClampNeg 0) 3)) (ho_96) dX8_takes_96 (fun H locs hP hD hS => ?_)
          have hP : va_P D vwCl (lt_Ro yI b 532 (upd (upd (upd (upd f (v_9 + 0).toNatClampNeg p1) (v_9 + 1).toNatClampNeg v_39) (v_9 + 2).toNatClampNeg 0) (v_9 + 3).toNatClampNeg ((upd (upd (upd f (v_9 + 0).toNatClampNeg p1) (v_9 + 1).toNatClampNeg v_39) (v_9 + 2).toNatClampNeg 0) 3))) H := hP
          have hD : va_D A (lt_Ro yI b 532 (upd (upd (upd (upd f (v_9 + 0).toNatClampNeg p1) (v_9 + 1).toNatClampNeg v_39) (v_9 + 2).toNatClampNeg 0) (v_9 + 3).toNatClampNeg ((upd (upd (upd f (v_9 + 0).toNatClampNeg p1) (v_9 + 1).toNatClampNeg v_39) (v_9 + 2).toNatClampNeg 0) 3))) := hD
          refine lv_aload_n hx hb dX8_takes_97 rfl (lv_at hl 3 rfl) ?_
          refine lv_iload_n hx hb dX8_takes_98 rfl (lv_at hl 2 rfl) ?_
          refine lv_iconst (v := 4) hx hb dX8_takes_99 (by decide) ?_
          refine lv_iadd hx hb dX8_takes_100 ?_
          refine lv_iload_n hx hb dX8_takes_101 rfl (lv_at hl 5 rfl) ?_
          have ho_102 := hs.1; have hs := hs.2
          refine va_iast hx hb hK hP hD hS 0 0 rfl rfl (i := (v_9 + 4)) (x := p2) (ho_102) dX8_takes_102 (fun H locs hP hD hS => ?_)
          have hP : va_P D vwCl (lt_Ro yI b 532 (upd (upd (upd (upd (upd f (v_9 + 0).toNatClampNeg p1) (v_9 + 1).toNatClampNeg v_39) (v_9 + 2).toNatClampNeg 0) (v_9 + 3).toNatClampNeg ((upd (upd (upd f (v_9 + 0).toNatClampNeg p1) (v_9 + 1).toNatClampNeg v_39) (v_9 + 2).toNatClampNeg 0) 3)) (v_9 + 4).toNatClampNeg p2)) H := hP
          have hD : va_D A (lt_Ro yI b 532 (upd (upd (upd (upd (upd f (v_9 + 0).toNatClampNeg p1) (v_9 + 1).toNatClampNeg v_39) (v_9 + 2).toNatClampNeg 0) (v_9 + 3).toNatClampNeg ((upd (upd (upd f (v_9 + 0).toNatClampNeg p1) (v_9 + 1).toNatClampNeg v_39) (v_9 + 2).toNatClampNeg 0) 3)) (v_9 + 4).toNatClampNeg p2)) := hD
          refine lv_aload_n hx hb dX8_takes_103 rfl (lv_at hl 3 rfl) ?_
          refine lv_iconst (v := 2) hx hb dX8_takes_104 (by decide) ?_
          refine lv_dup2_11 hx hb dX8_takes_105 rfl rfl ?_
          refine va_iald hx hb hK hP 0 0 rfl rfl (i := 2) (vp_in_iff.mpr (by decide)) dX8_takes_106 ?_
          refine lt_top (y := ((upd (upd (upd (upd (upd f (v_9 + 0).toNatClampNeg p1) (v_9 + 1).toNatClampNeg v_39) (v_9 + 2).toNatClampNeg 0) (v_9 + 3).toNatClampNeg ((upd (upd (upd f (v_9 + 0).toNatClampNeg p1) (v_9 + 1).toNatClampNeg v_39) (v_9 + 2).toNatClampNeg 0) 3)) (v_9 + 4).toNatClampNeg p2) 2)) rfl ?_
          refine lv_iconst (v := 1) hx hb dX8_takes_107 (by decide) ?_
          refine lv_iadd hx hb dX8_takes_108 ?_
          refine va_iast hx hb hK hP hD hS 0 0 rfl rfl (i := 2) (x := (((upd (upd (upd (upd (upd f (v_9 + 0).toNatClampNeg p1) (v_9 + 1).toNatClampNeg v_39) (v_9 + 2).toNatClampNeg 0) (v_9 + 3).toNatClampNeg ((upd (upd (upd f (v_9 + 0).toNatClampNeg p1) (v_9 + 1).toNatClampNeg v_39) (v_9 + 2).toNatClampNeg 0) 3)) (v_9 + 4).toNatClampNeg p2) 2) + 1)) (vp_in_iff.mpr (by decide)) dX8_takes_109 (fun H locs hP hD hS => ?_)
          have hP : va_P D vwCl (lt_Ro yI b 532 (upd (upd (upd (upd (upd (upd f (v_9 + 0).toNatClampNeg p1) (v_9 + 1).toNatClampNeg v_39) (v_9 + 2).toNatClampNeg 0) (v_9 + 3).toNatClampNeg ((upd (upd (upd f (v_9 + 0).toNatClampNeg p1) (v_9 + 1).toNatClampNeg v_39) (v_9 + 2).toNatClampNeg 0) 3)) (v_9 + 4).toNatClampNeg p2) 2 (((upd (upd (upd (upd (upd f (v_9 + 0).toNatClampNeg p1) (v_9 + 1).toNatClampNeg v_39) (v_9 + 2).toNatClampNeg 0) (v_9 + 3).toNatClampNeg ((upd (upd (upd f (v_9 + 0).toNatClampNeg p1) (v_9 + 1).toNatClampNeg v_39) (v_9 + 2).toNatClampNeg 0) 3)) (v_9 + 4).toNatClampNeg p2) 2) + 1))) H := hP
          have hD : va_D A (lt_Ro yI b 532 (upd (upd (upd (upd (upd (upd f (v_9 + 0).toNatClampNeg p1) (v_9 + 1).toNatClampNeg v_39) (v_9 + 2).toNatClampNeg 0) (v_9 + 3).toNatClampNeg ((upd (upd (upd f (v_9 + 0).toNatClampNeg p1) (v_9 + 1).toNatClampNeg v_39) (v_9 + 2).toNatClampNeg 0) 3)) (v_9 + 4).toNatClampNeg p2) 2 (((upd (upd (upd (upd (upd f (v_9 + 0).toNatClampNeg p1) (v_9 + 1).toNatClampNeg v_39) (v_9 + 2).toNatClampNeg 0) (v_9 + 3).toNatClampNeg ((upd (upd (upd f (v_9 + 0).toNatClampNeg p1) (v_9 + 1).toNatClampNeg v_39) (v_9 + 2).toNatClampNeg 0) 3)) (v_9 + 4).toNatClampNeg p2) 2) + 1))) := hD
          exact W.vret hx hb hret (fun t ht hW => ⟨⟨((upd (upd (upd (upd (upd (upd f (v_9 + 0).toNatClampNeg p1) (v_9 + 1).toNatClampNeg v_39) (v_9 + 2).toNatClampNeg 0) (v_9 + 3).toNatClampNeg ((upd (upd (upd f (v_9 + 0).toNatClampNeg p1) (v_9 + 1).toNatClampNeg v_39) (v_9 + 2).toNatClampNeg 0) 3)) (v_9 + 4).toNatClampNeg p2) 2 (((upd (upd (upd (upd (upd f (v_9 + 0).toNatClampNeg p1) (v_9 + 1).toNatClampNeg v_39) (v_9 + 2).toNatClampNeg 0) (v_9 + 3).toNatClampNeg ((upd (upd (upd f (v_9 + 0).toNatClampNeg p1) (v_9 + 1).toNatClampNeg v_39) (v_9 + 2).toNatClampNeg 0) 3)) (v_9 + 4).toNatClampNeg p2) 2) + 1))), rfl, (by subst e_v_39 e_r_28 e_v_9; exact (Eq.symm (Eq.trans (if_pos c_12) (Eq.trans (if_neg c_55) (Eq.trans (if_neg c_60) (Eq.trans (if_pos c_80) rfl)))))), by rw [ht]; exact hP, hD⟩, hS.F ht⟩) hS.2.2 dX8_takes_110
        · have hs := hs.2 c_80
          refine lv_iconst (v := 1) hx hb dX8_takes_83 (by decide) ?_
          refine lv_goto (tgt := 88) hx hb dX8_takes_84 (by decide) ?_
          have ho_88 := hs.1; have hs := hs.2
          refine va_iast hx hb hK hP hD hS 0 0 rfl rfl (i := (v_9 + 2)) (x := 1) (ho_88) dX8_takes_88 (fun H locs hP hD hS => ?_)
          have hP : va_P D vwCl (lt_Ro yI b 532 (upd (upd (upd f (v_9 + 0).toNatClampNeg p1) (v_9 + 1).toNatClampNeg v_39) (v_9 + 2).toNatClampNeg 1)) H := hP
          have hD : va_D A (lt_Ro yI b 532 (upd (upd (upd f (v_9 + 0).toNatClampNeg p1) (v_9 + 1).toNatClampNeg v_39) (v_9 + 2).toNatClampNeg 1)) := hD
          refine lv_aload_n hx hb dX8_takes_89 rfl (lv_at hl 3 rfl) ?_
          refine lv_iload_n hx hb dX8_takes_90 rfl (lv_at hl 2 rfl) ?_
          refine lv_iconst (v := 3) hx hb dX8_takes_91 (by decide) ?_
          refine lv_iadd hx hb dX8_takes_92 ?_
          refine lv_aload_n hx hb dX8_takes_93 rfl (lv_at hl 3 rfl) ?_
          refine lv_iconst (v := 3) hx hb dX8_takes_94 (by decide) ?_
          refine va_iald hx hb hK hP 0 0 rfl rfl (i := 3) (vp_in_iff.mpr (by decide)) dX8_takes_95 ?_
          refine lt_top (y := ((upd (upd (upd f (v_9 + 0).toNatClampNeg p1) (v_9 + 1).toNatClampNeg v_39) (v_9 + 2).toNatClampNeg 1) 3)) rfl ?_
          have ho_96 := hs.1; have hs := hs.2
          refine va_iast hx hb hK hP hD hS 0 0 rfl rfl (i := (v_9 + 3)) (x := ((upd (upd (upd f (v_9 + 0).toNatClampNeg p1) (v_9 + 1).toNatClampNeg v_39) (v_9 + 2).toNatClampNeg 1) 3)) (ho_96) dX8_takes_96 (fun H locs hP hD hS => ?_)
          have hP : va_P D vwCl (lt_Ro yI b 532 (upd (upd (upd (upd f (v_9 + 0).toNatClampNeg p1) (v_9 + 1).toNatClampNeg v_39) (v_9 + 2).toNatClampNeg 1) (v_9 + 3).toNatClampNeg ((upd (upd (upd f (v_9 + 0).toNatClampNeg p1) (v_9 + 1).toNatClampNeg v_39) (v_9 + 2).toNatClampNeg 1) 3))) H := hP
          have hD : va_D A (lt_Ro yI b 532 (upd (upd (upd (upd f (v_9 + 0).toNatClampNeg p1) (v_9 + 1).toNatClampNeg v_39) (v_9 + 2).toNatClampNeg 1) (v_9 + 3).toNatClampNeg ((upd (upd (upd f (v_9 + 0).toNatClampNeg p1) (v_9 + 1).toNatClampNeg v_39) (v_9 + 2).toNatClampNeg 1) 3))) := hD
          refine lv_aload_n hx hb dX8_takes_97 rfl (lv_at hl 3 rfl) ?_
          refine lv_iload_n hx hb dX8_takes_98 rfl (lv_at hl 2 rfl) ?_
          refine lv_iconst (v := 4) hx hb dX8_takes_99 (by decide) ?_
          refine lv_iadd hx hb dX8_takes_100 ?_
          refine lv_iload_n hx hb dX8_takes_101 rfl (lv_at hl 5 rfl) ?_
          have ho_102 := hs.1; have hs := hs.2
          refine va_iast hx hb hK hP hD hS 0 0 rfl rfl (i := (v_9 + 4)) (x := p2) (ho_102) dX8_takes_102 (fun H locs hP hD hS => ?_)
          have hP : va_P D vwCl (lt_Ro yI b 532 (upd (upd (upd (upd (upd f (v_9 + 0).toNatClampNeg p1) (v_9 + 1).toNatClampNeg v_39) (v_9 + 2).toNatClampNeg 1) (v_9 + 3).toNatClampNeg ((upd (upd (upd f (v_9 + 0).toNatClampNeg p1) (v_9 + 1).toNatClampNeg v_39) (v_9 + 2).toNatClampNeg 1) 3)) (v_9 + 4).toNatClampNeg p2)) H := hP
          have hD : va_D A (lt_Ro yI b 532 (upd (upd (upd (upd (upd f (v_9 + 0).toNatClampNeg p1) (v_9 + 1).toNatClampNeg v_39) (v_9 + 2).toNatClampNeg 1) (v_9 + 3).toNatClampNeg ((upd (upd (upd f (v_9 + 0).toNatClampNeg p1) (v_9 + 1).toNatClampNeg v_39) (v_9 + 2).toNatClampNeg 1) 3)) (v_9 + 4).toNatClampNeg p2)) := hD
          refine lv_aload_n hx hb dX8_takes_103 rfl (lv_at hl 3 rfl) ?_
          refine lv_iconst (v := 2) hx hb dX8_takes_104 (by decide) ?_
          refine lv_dup2_11 hx hb dX8_takes_105 rfl rfl ?_
          refine va_iald hx hb hK hP 0 0 rfl rfl (i := 2) (vp_in_iff.mpr (by decide)) dX8_takes_106 ?_
          refine lt_top (y := ((upd (upd (upd (upd (upd f (v_9 + 0).toNatClampNeg p1) (v_9 + 1).toNatClampNeg v_39) (v_9 + 2).toNatClampNeg 1) (v_9 + 3).toNatClampNeg ((upd (upd (upd f (v_9 + 0).toNatClampNeg p1) (v_9 + 1).toNatClampNeg v_39) (v_9 + 2).toNatClampNeg 1) 3)) (v_9 + 4).toNatClampNeg p2) 2)) rfl ?_
          refine lv_iconst (v := 1) hx hb dX8_takes_107 (by decide) ?_
          refine lv_iadd hx hb dX8_takes_108 ?_
          refine va_iast hx hb hK hP hD hS 0 0 rfl rfl (i := 2) (x := (((upd (upd (upd (upd (upd f (v_9 + 0).toNatClampNeg p1) (v_9 + 1).toNatClampNeg v_39) (v_9 + 2).toNatClampNeg 1) (v_9 + 3).toNatClampNeg ((upd (upd (upd f (v_9 + 0).toNatClampNeg p1) (v_9 + 1).toNatClampNeg v_39) (v_9 + 2).toNatClampNeg 1) 3)) (v_9 + 4).toNatClampNeg p2) 2) + 1)) (vp_in_iff.mpr (by decide)) dX8_takes_109 (fun H locs hP hD hS => ?_)
          have hP : va_P D vwCl (lt_Ro yI b 532 (upd (upd (upd (upd (upd (upd f (v_9 + 0).toNatClampNeg p1) (v_9 + 1).toNatClampNeg v_39) (v_9 + 2).toNatClampNeg 1) (v_9 + 3).toNatClampNeg ((upd (upd (upd f (v_9 + 0).toNatClampNeg p1) (v_9 + 1).toNatClampNeg v_39) (v_9 + 2).toNatClampNeg 1) 3)) (v_9 + 4).toNatClampNeg p2) 2 (((upd (upd (upd (upd (upd f (v_9 + 0).toNatClampNeg p1) (v_9 + 1).toNatClampNeg v_39) (v_9 + 2).toNatClampNeg 1) (v_9 + 3).toNatClampNeg ((upd (upd (upd f (v_9 + 0).toNatClampNeg p1) (v_9 + 1).toNatClampNeg v_39) (v_9 + 2).toNatClampNeg 1) 3)) (v_9 + 4).toNatClampNeg p2) 2) + 1))) H := hP
          have hD : va_D A (lt_Ro yI b 532 (upd (upd (upd (upd (upd (upd f (v_9 + 0).toNatClampNeg p1) (v_9 + 1).toNatClampNeg v_39) (v_9 + 2).toNatClampNeg 1) (v_9 + 3).toNatClampNeg ((upd (upd (upd f (v_9 + 0).toNatClampNeg p1) (v_9 + 1).toNatClampNeg v_39) (v_9 + 2).toNatClampNeg 1) 3)) (v_9 + 4).toNatClampNeg p2) 2 (((upd (upd (upd (upd (upd f (v_9 + 0).toNatClampNeg p1) (v_9 + 1).toNatClampNeg v_39) (v_9 + 2).toNatClampNeg 1) (v_9 + 3).toNatClampNeg ((upd (upd (upd f (v_9 + 0).toNatClampNeg p1) (v_9 + 1).toNatClampNeg v_39) (v_9 + 2).toNatClampNeg 1) 3)) (v_9 + 4).toNatClampNeg p2) 2) + 1))) := hD
          exact W.vret hx hb hret (fun t ht hW => ⟨⟨((upd (upd (upd (upd (upd (upd f (v_9 + 0).toNatClampNeg p1) (v_9 + 1).toNatClampNeg v_39) (v_9 + 2).toNatClampNeg 1) (v_9 + 3).toNatClampNeg ((upd (upd (upd f (v_9 + 0).toNatClampNeg p1) (v_9 + 1).toNatClampNeg v_39) (v_9 + 2).toNatClampNeg 1) 3)) (v_9 + 4).toNatClampNeg p2) 2 (((upd (upd (upd (upd (upd f (v_9 + 0).toNatClampNeg p1) (v_9 + 1).toNatClampNeg v_39) (v_9 + 2).toNatClampNeg 1) (v_9 + 3).toNatClampNeg ((upd (upd (upd f (v_9 + 0).toNatClampNeg p1) (v_9 + 1).toNatClampNeg v_39) (v_9 + 2).toNatClampNeg 1) 3)) (v_9 + 4).toNatClampNeg p2) 2) + 1))), rfl, (by subst e_v_39 e_r_28 e_v_9; exact (Eq.symm (Eq.trans (if_pos c_12) (Eq.trans (if_neg c_55) (Eq.trans (if_neg c_60) (Eq.trans (if_neg c_80) rfl)))))), by rw [ht]; exact hP, hD⟩, hS.F ht⟩) hS.2.2 dX8_takes_110

def X8_shots (f : Nat → Int32) : Int32 × ((Nat → Int32)) :=
  let r_11 := X8_openOn f 0
  if r_11 = (-5) then
    let r_11_1 := X8_openOn f 1
    if r_11_1 = (-5) then
      (0, ((upd f 3 ((f 3) + 1))))
    else
      if 80 ≤ (f 2) then
        (1, ((upd f 3 ((f 3) + 1))))
      else
        let x_35 := X8_takes f r_11_1 1
        (1, ((upd x_35 3 ((x_35 3) + 1))))
  else
    if 80 ≤ (f 2) then
      let r_11_1 := X8_openOn f 1
      if r_11_1 = (-5) then
        (1, ((upd f 3 ((f 3) + 1))))
      else
        if 80 ≤ (f 2) then
          (2, ((upd f 3 ((f 3) + 1))))
        else
          let x_35 := X8_takes f r_11_1 1
          (2, ((upd x_35 3 ((x_35 3) + 1))))
    else
      let x_35 := X8_takes f r_11 0
      let r_11_1 := X8_openOn x_35 1
      if r_11_1 = (-5) then
        (1, ((upd x_35 3 ((x_35 3) + 1))))
      else
        if 80 ≤ (x_35 2) then
          (2, ((upd x_35 3 ((x_35 3) + 1))))
        else
          let x_35_1 := X8_takes x_35 r_11_1 1
          (2, ((upd x_35_1 3 ((x_35_1 3) + 1))))
def S_X8_shots (f : Nat → Int32) : Prop :=
  (S_X8_openOn f 0) ∧
  ∀ r_11, r_11 = X8_openOn f 0 →
  (r_11 = (-5) →
    (S_X8_openOn f 1) ∧
    ∀ r_11_1, r_11_1 = X8_openOn f 1 →
    (r_11_1 = (-5) →
      True) ∧
    (¬ (r_11_1 = (-5)) →
      (80 ≤ (f 2) →
        True) ∧
      (¬ (80 ≤ (f 2)) →
        (S_X8_takes f r_11_1 1) ∧
        ∀ x_35, x_35 = X8_takes f r_11_1 1 →
        True))) ∧
  (¬ (r_11 = (-5)) →
    (80 ≤ (f 2) →
      (S_X8_openOn f 1) ∧
      ∀ r_11_1, r_11_1 = X8_openOn f 1 →
      (r_11_1 = (-5) →
        True) ∧
      (¬ (r_11_1 = (-5)) →
        (80 ≤ (f 2) →
          True) ∧
        (¬ (80 ≤ (f 2)) →
          (S_X8_takes f r_11_1 1) ∧
          ∀ x_35, x_35 = X8_takes f r_11_1 1 →
          True))) ∧
    (¬ (80 ≤ (f 2)) →
      (S_X8_takes f r_11 0) ∧
      ∀ x_35, x_35 = X8_takes f r_11 0 →
      (S_X8_openOn x_35 1) ∧
      ∀ r_11_1, r_11_1 = X8_openOn x_35 1 →
      (r_11_1 = (-5) →
        True) ∧
      (¬ (r_11_1 = (-5)) →
        (80 ≤ (x_35 2) →
          True) ∧
        (¬ (80 ≤ (x_35 2)) →
          (S_X8_takes x_35 r_11_1 1) ∧
          ∀ x_35_1, x_35_1 = X8_takes x_35 r_11_1 1 →
          True))))
set_option maxHeartbeats 4000000 in
set_option maxRecDepth 100000 in
theorem c_X8_shots (l : Launch) (D : va_G) (yI yC yO : ClassId) (b : Nat) (f : Nat → Int32) (sz : Nat) (hs : S_X8_shots f) : Met l yX8_shots wsX8_shots ({ frames := 2, cells := 0, slots := 0, locals := 60 }) (va_Pc [.ref b] (lt_M D yI yC yO (lt_Ro yI b 532 f) sz)) (lt_Qi D (X8_shots f) (fun u => lt_Ro yI b 532 u) (va_A (lt_Ro yI b 532 f) sz)) 0 0 (va_A (lt_Ro yI b 532 f) sz) := by
  refine Met.ofW (cc := cX8_shots) (maxL := 4) (ret := (some .int)) (by decide) rfl ?_
  intro p e s m args below meth c s₁ B0 hml hv
  obtain ⟨rfl, hsz, hP, hK0, hD0⟩ := hv
  have hx := B0.exec
  have hb := B0.bytes
  have hret := B0.returns
  have hts := atoms_spec (ws := wsX8_shots) B0.pre
  have hown : s.vm.findClass RX8 = some m.cls := findClass_of_methodNamed B0.named
  have hlocks := B0.notSynchronized
  have hK := hK0.1
  have hN := hK0.2
  subst hsz
  have hD := hD0.self (sz := s.heap.size)
  generalize hAe : va_A (lt_Ro yI b 532 f) s.heap.size = A at hD ⊢
  have hA : ∀ q : Nat, s.heap.size ≤ q → A q := fun q h => by rw [← hAe]; exact Or.inr h
  have hS : va_S A s.heap s.heap [] := va_S.rf
  have hP : va_P D vwCl (lt_Ro yI b 532 f) s.heap := hP
  have hD : va_D A (lt_Ro yI b 532 f) := hD
  have hl := lv_entry ([.ref b]) (n := 4) (Nat.le_of_ble_eq_true rfl)
  rw [lg_entry_eq]
  generalize (lg_sl ([.ref b]) ++ List.replicate (4 - (lg_sl ([.ref b])).length) Slot.unset).toArray = ls at hl ⊢
  have hl : lv_has ls 4 [(0, .ref b)] := hl
  refine lv_iconst (v := 0) hx hb dX8_shots_0 (by decide) ?_
  refine lv_istore_n (lv' := [(1, .int 0), (0, .ref b)]) hx hb dX8_shots_1 rfl hl (by decide) rfl (fun ls hl => ?_)
  refine lv_iconst (v := 0) hx hb dX8_shots_2 (by decide) ?_
  refine lv_istore_n (lv' := [(2, .int 0), (1, .int 0), (0, .ref b)]) hx hb dX8_shots_3 rfl hl (by decide) rfl (fun ls hl => ?_)
  refine lv_iload_n hx hb dX8_shots_4 rfl (lv_at hl 0 rfl) ?_
  refine lv_iconst (v := 2) hx hb dX8_shots_5 (by decide) ?_
  refine lv_icmp_ge (tgt := 44) hx hb dX8_shots_6 (by decide) (fun c => absurd c (by decide)) (fun _ => ?_)
  refine lv_aload_n hx hb dX8_shots_9 rfl (lv_at hl 2 rfl) ?_
  refine lv_iload_n hx hb dX8_shots_10 rfl (lv_at hl 0 rfl) ?_
  have ho_11 := hs.1; have hs := hs.2
  have hPc := hP.sub (ws' := lt_Ro yI b 532 f) [0] rfl
  refine lt_cR (va_runS (As := [.ref b, .int 0]) (rest := []) ⟨hx, hb, hml, hown, hts⟩ (c_X8_openOn l D yI yC yO b f 0 ho_11) (va_cwS 2 hts gX8_shots_X8_openOn rfl rfl rfl (by decide +kernel) ⟨Nat.le_of_ble_eq_true rfl, Nat.le_of_ble_eq_true rfl⟩) (lt_pS hK0 hPc) rfl rfl hl.1 rfl (lv_room (Nat.le_of_ble_eq_true rfl)) dX8_shots_11 ⟨Nat.zero_le _, Nat.zero_le _⟩) (fun r_11 e_r_11 => ?_)
  have hs := hs r_11 e_r_11
  refine lv_istore_n (lv' := [(3, .int r_11), (2, .int 0), (1, .int 0), (0, .ref b)]) hx hb dX8_shots_14 rfl hl (by decide) rfl (fun ls hl => ?_)
  refine lv_iload_n hx hb dX8_shots_15 rfl (lv_at hl 0 rfl) ?_
  refine lv_bipush (v := (-5)) hx hb dX8_shots_16 (by decide) ?_
  refine lv_icmp_eq (tgt := 38) hx hb dX8_shots_18 (by decide) (fun c_18 => ?_) (fun c_18 => ?_)
  · have hs := hs.1 c_18
    refine lv_iinc (v := 1) (lv' := [(2, .int 1), (3, .int r_11), (1, .int 0), (0, .ref b)]) hx hb dX8_shots_38 hl (k := 1) rfl (by decide) (by decide) rfl (fun ls hl => ?_)
    refine lv_goto (tgt := 4) hx hb dX8_shots_41 (by decide) ?_
    refine lv_iload_n hx hb dX8_shots_4 rfl (lv_at hl 0 rfl) ?_
    refine lv_iconst (v := 2) hx hb dX8_shots_5 (by decide) ?_
    refine lv_icmp_ge (tgt := 44) hx hb dX8_shots_6 (by decide) (fun c => absurd c (by decide)) (fun _ => ?_)
    refine lv_aload_n hx hb dX8_shots_9 rfl (lv_at hl 3 rfl) ?_
    refine lv_iload_n hx hb dX8_shots_10 rfl (lv_at hl 0 rfl) ?_
    have ho_11_1 := hs.1; have hs := hs.2
    have hPc := hP.sub (ws' := lt_Ro yI b 532 f) [0] rfl
    refine lt_cR (va_runS (As := [.ref b, .int 1]) (rest := []) ⟨hx, hb, hml, hown, hts⟩ (c_X8_openOn l D yI yC yO b f 1 ho_11_1) (va_cwS 2 hts gX8_shots_X8_openOn rfl rfl rfl (by decide +kernel) ⟨Nat.le_of_ble_eq_true rfl, Nat.le_of_ble_eq_true rfl⟩) (lt_pS hK0 hPc) rfl rfl hl.1 rfl (lv_room (Nat.le_of_ble_eq_true rfl)) dX8_shots_11 ⟨Nat.zero_le _, Nat.zero_le _⟩) (fun r_11_1 e_r_11_1 => ?_)
    have hs := hs r_11_1 e_r_11_1
    refine lv_istore_n (lv' := [(3, .int r_11_1), (2, .int 1), (1, .int 0), (0, .ref b)]) hx hb dX8_shots_14 rfl hl (by decide) rfl (fun ls hl => ?_)
    refine lv_iload_n hx hb dX8_shots_15 rfl (lv_at hl 0 rfl) ?_
    refine lv_bipush (v := (-5)) hx hb dX8_shots_16 (by decide) ?_
    refine lv_icmp_eq (tgt := 38) hx hb dX8_shots_18 (by decide) (fun c_18_1 => ?_) (fun c_18_1 => ?_)
    · have hs := hs.1 c_18_1
      refine lv_iinc (v := 2) (lv' := [(2, .int 2), (3, .int r_11_1), (1, .int 0), (0, .ref b)]) hx hb dX8_shots_38 hl (k := 1) rfl (by decide) (by decide) rfl (fun ls hl => ?_)
      refine lv_goto (tgt := 4) hx hb dX8_shots_41 (by decide) ?_
      refine lv_iload_n hx hb dX8_shots_4 rfl (lv_at hl 0 rfl) ?_
      refine lv_iconst (v := 2) hx hb dX8_shots_5 (by decide) ?_
      refine lv_icmp_ge (tgt := 44) hx hb dX8_shots_6 (by decide) (fun _ => ?_) (fun c => absurd c (by decide))
      refine lv_aload_n hx hb dX8_shots_44 rfl (lv_at hl 3 rfl) ?_
      refine lv_iconst (v := 3) hx hb dX8_shots_45 (by decide) ?_
      refine lv_dup2_11 hx hb dX8_shots_46 rfl rfl ?_
      refine va_iald hx hb hK hP 0 0 rfl rfl (i := 3) (vp_in_iff.mpr (by decide)) dX8_shots_47 ?_
      refine lt_top (y := (f 3)) rfl ?_
      refine lv_iconst (v := 1) hx hb dX8_shots_48 (by decide) ?_
      refine lv_iadd hx hb dX8_shots_49 ?_
      refine va_iast hx hb hK hP hD hS 0 0 rfl rfl (i := 3) (x := ((f 3) + 1)) (vp_in_iff.mpr (by decide)) dX8_shots_50 (fun H locs hP hD hS => ?_)
      have hP : va_P D vwCl (lt_Ro yI b 532 (upd f 3 ((f 3) + 1))) H := hP
      have hD : va_D A (lt_Ro yI b 532 (upd f 3 ((f 3) + 1))) := hD
      refine lv_iload_n hx hb dX8_shots_51 rfl (lv_at hl 2 rfl) ?_
      exact W.iret (v := 0) hx hb hret (fun t ht hW => ⟨⟨0, ((upd f 3 ((f 3) + 1))), rfl, (by subst e_r_11_1 e_r_11; exact (Eq.symm (Eq.trans (if_pos c_18) (Eq.trans (if_pos c_18_1) rfl)))), by rw [ht]; exact hP, hD⟩, hS.F ht⟩) hS.2.2 dX8_shots_52
    · have hs := hs.2 c_18_1
      refine lv_iinc (v := 1) (lv' := [(1, .int 1), (3, .int r_11_1), (2, .int 1), (0, .ref b)]) hx hb dX8_shots_21 hl (k := 2) rfl (by decide) (by decide) rfl (fun ls hl => ?_)
      refine lv_aload_n hx hb dX8_shots_24 rfl (lv_at hl 3 rfl) ?_
      refine lv_iconst (v := 2) hx hb dX8_shots_25 (by decide) ?_
      refine va_iald hx hb hK hP 0 0 rfl rfl (i := 2) (vp_in_iff.mpr (by decide)) dX8_shots_26 ?_
      refine lt_top (y := (f 2)) rfl ?_
      refine lv_bipush (v := 80) hx hb dX8_shots_27 (by decide) ?_
      refine lv_icmp_ge (tgt := 38) hx hb dX8_shots_29 (by decide) (fun c_29 => ?_) (fun c_29 => ?_)
      · have hs := hs.1 c_29
        refine lv_iinc (v := 2) (lv' := [(2, .int 2), (1, .int 1), (3, .int r_11_1), (0, .ref b)]) hx hb dX8_shots_38 hl (k := 2) rfl (by decide) (by decide) rfl (fun ls hl => ?_)
        refine lv_goto (tgt := 4) hx hb dX8_shots_41 (by decide) ?_
        refine lv_iload_n hx hb dX8_shots_4 rfl (lv_at hl 0 rfl) ?_
        refine lv_iconst (v := 2) hx hb dX8_shots_5 (by decide) ?_
        refine lv_icmp_ge (tgt := 44) hx hb dX8_shots_6 (by decide) (fun _ => ?_) (fun c => absurd c (by decide))
        refine lv_aload_n hx hb dX8_shots_44 rfl (lv_at hl 3 rfl) ?_
        refine lv_iconst (v := 3) hx hb dX8_shots_45 (by decide) ?_
        refine lv_dup2_11 hx hb dX8_shots_46 rfl rfl ?_
        refine va_iald hx hb hK hP 0 0 rfl rfl (i := 3) (vp_in_iff.mpr (by decide)) dX8_shots_47 ?_
        refine lt_top (y := (f 3)) rfl ?_
        refine lv_iconst (v := 1) hx hb dX8_shots_48 (by decide) ?_
        refine lv_iadd hx hb dX8_shots_49 ?_
        refine va_iast hx hb hK hP hD hS 0 0 rfl rfl (i := 3) (x := ((f 3) + 1)) (vp_in_iff.mpr (by decide)) dX8_shots_50 (fun H locs hP hD hS => ?_)
        have hP : va_P D vwCl (lt_Ro yI b 532 (upd f 3 ((f 3) + 1))) H := hP
        have hD : va_D A (lt_Ro yI b 532 (upd f 3 ((f 3) + 1))) := hD
        refine lv_iload_n hx hb dX8_shots_51 rfl (lv_at hl 1 rfl) ?_
        exact W.iret (v := 1) hx hb hret (fun t ht hW => ⟨⟨1, ((upd f 3 ((f 3) + 1))), rfl, (by subst e_r_11_1 e_r_11; exact (Eq.symm (Eq.trans (if_pos c_18) (Eq.trans (if_neg c_18_1) (Eq.trans (if_pos c_29) rfl))))), by rw [ht]; exact hP, hD⟩, hS.F ht⟩) hS.2.2 dX8_shots_52
      · have hs := hs.2 c_29
        refine lv_aload_n hx hb dX8_shots_32 rfl (lv_at hl 3 rfl) ?_
        refine lv_iload_n hx hb dX8_shots_33 rfl (lv_at hl 1 rfl) ?_
        refine lv_iload_n hx hb dX8_shots_34 rfl (lv_at hl 2 rfl) ?_
        have ho_35 := hs.1; have hs := hs.2
        have hPc := hP.sub (ws' := lt_Ro yI b 532 f) [0] rfl
        have hDc := hD.sub (ws' := lt_Ro yI b 532 f) [0] (by decide) rfl
        refine lt_cWv (wc := lt_Ro yI b 532 f) (wr := []) (va_runS (As := [.ref b, .int r_11_1, .int 1]) (rest := []) ⟨hx, hb, hml, hown, hts⟩ (c_X8_takes l D yI yC yO b f r_11_1 1 _ ho_35) (va_cwS 3 hts gX8_shots_X8_takes rfl rfl rfl (by decide +kernel) ⟨Nat.le_of_ble_eq_true rfl, Nat.le_of_ble_eq_true rfl⟩) (lt_qS hK0 hPc hDc) rfl rfl hl.1 rfl (lv_room (Nat.le_of_ble_eq_true rfl)) dX8_shots_35 ⟨Nat.zero_le _, Nat.zero_le _⟩) hP hD hS hA [0] [] rfl rfl (by decide) (by decide) (fun x_35 e_x_35 H locs hP hD hS => ?_)
        have hP := hP.sub (ws' := lt_Ro yI b 532 x_35) [0] rfl
        have hD := hD.sub (ws' := lt_Ro yI b 532 x_35) [0] (by decide) rfl
        have hs := hs x_35 e_x_35
        refine lv_iinc (v := 2) (lv' := [(2, .int 2), (1, .int 1), (3, .int r_11_1), (0, .ref b)]) hx hb dX8_shots_38 hl (k := 2) rfl (by decide) (by decide) rfl (fun ls hl => ?_)
        refine lv_goto (tgt := 4) hx hb dX8_shots_41 (by decide) ?_
        refine lv_iload_n hx hb dX8_shots_4 rfl (lv_at hl 0 rfl) ?_
        refine lv_iconst (v := 2) hx hb dX8_shots_5 (by decide) ?_
        refine lv_icmp_ge (tgt := 44) hx hb dX8_shots_6 (by decide) (fun _ => ?_) (fun c => absurd c (by decide))
        refine lv_aload_n hx hb dX8_shots_44 rfl (lv_at hl 3 rfl) ?_
        refine lv_iconst (v := 3) hx hb dX8_shots_45 (by decide) ?_
        refine lv_dup2_11 hx hb dX8_shots_46 rfl rfl ?_
        refine va_iald hx hb hK hP 0 0 rfl rfl (i := 3) (vp_in_iff.mpr (by decide)) dX8_shots_47 ?_
        refine lt_top (y := (x_35 3)) rfl ?_
        refine lv_iconst (v := 1) hx hb dX8_shots_48 (by decide) ?_
        refine lv_iadd hx hb dX8_shots_49 ?_
        refine va_iast hx hb hK hP hD hS 0 0 rfl rfl (i := 3) (x := ((x_35 3) + 1)) (vp_in_iff.mpr (by decide)) dX8_shots_50 (fun H locs hP hD hS => ?_)
        have hP : va_P D vwCl (lt_Ro yI b 532 (upd x_35 3 ((x_35 3) + 1))) H := hP
        have hD : va_D A (lt_Ro yI b 532 (upd x_35 3 ((x_35 3) + 1))) := hD
        refine lv_iload_n hx hb dX8_shots_51 rfl (lv_at hl 1 rfl) ?_
        exact W.iret (v := 1) hx hb hret (fun t ht hW => ⟨⟨1, ((upd x_35 3 ((x_35 3) + 1))), rfl, (by subst e_x_35 e_r_11_1 e_r_11; exact (Eq.symm (Eq.trans (if_pos c_18) (Eq.trans (if_neg c_18_1) (Eq.trans (if_neg c_29) rfl))))), by rw [ht]; exact hP, hD⟩, hS.F ht⟩) hS.2.2 dX8_shots_52
  · have hs := hs.2 c_18
    refine lv_iinc (v := 1) (lv' := [(1, .int 1), (3, .int r_11), (2, .int 0), (0, .ref b)]) hx hb dX8_shots_21 hl (k := 2) rfl (by decide) (by decide) rfl (fun ls hl => ?_)
    refine lv_aload_n hx hb dX8_shots_24 rfl (lv_at hl 3 rfl) ?_
    refine lv_iconst (v := 2) hx hb dX8_shots_25 (by decide) ?_
    refine va_iald hx hb hK hP 0 0 rfl rfl (i := 2) (vp_in_iff.mpr (by decide)) dX8_shots_26 ?_
    refine lt_top (y := (f 2)) rfl ?_
    refine lv_bipush (v := 80) hx hb dX8_shots_27 (by decide) ?_
    refine lv_icmp_ge (tgt := 38) hx hb dX8_shots_29 (by decide) (fun c_29 => ?_) (fun c_29 => ?_)
    · have hs := hs.1 c_29
      refine lv_iinc (v := 1) (lv' := [(2, .int 1), (1, .int 1), (3, .int r_11), (0, .ref b)]) hx hb dX8_shots_38 hl (k := 2) rfl (by decide) (by decide) rfl (fun ls hl => ?_)
      refine lv_goto (tgt := 4) hx hb dX8_shots_41 (by decide) ?_
      refine lv_iload_n hx hb dX8_shots_4 rfl (lv_at hl 0 rfl) ?_
      refine lv_iconst (v := 2) hx hb dX8_shots_5 (by decide) ?_
      refine lv_icmp_ge (tgt := 44) hx hb dX8_shots_6 (by decide) (fun c => absurd c (by decide)) (fun _ => ?_)
      refine lv_aload_n hx hb dX8_shots_9 rfl (lv_at hl 3 rfl) ?_
      refine lv_iload_n hx hb dX8_shots_10 rfl (lv_at hl 0 rfl) ?_
      have ho_11_1 := hs.1; have hs := hs.2
      have hPc := hP.sub (ws' := lt_Ro yI b 532 f) [0] rfl
      refine lt_cR (va_runS (As := [.ref b, .int 1]) (rest := []) ⟨hx, hb, hml, hown, hts⟩ (c_X8_openOn l D yI yC yO b f 1 ho_11_1) (va_cwS 2 hts gX8_shots_X8_openOn rfl rfl rfl (by decide +kernel) ⟨Nat.le_of_ble_eq_true rfl, Nat.le_of_ble_eq_true rfl⟩) (lt_pS hK0 hPc) rfl rfl hl.1 rfl (lv_room (Nat.le_of_ble_eq_true rfl)) dX8_shots_11 ⟨Nat.zero_le _, Nat.zero_le _⟩) (fun r_11_1 e_r_11_1 => ?_)
      have hs := hs r_11_1 e_r_11_1
      refine lv_istore_n (lv' := [(3, .int r_11_1), (2, .int 1), (1, .int 1), (0, .ref b)]) hx hb dX8_shots_14 rfl hl (by decide) rfl (fun ls hl => ?_)
      refine lv_iload_n hx hb dX8_shots_15 rfl (lv_at hl 0 rfl) ?_
      refine lv_bipush (v := (-5)) hx hb dX8_shots_16 (by decide) ?_
      refine lv_icmp_eq (tgt := 38) hx hb dX8_shots_18 (by decide) (fun c_18_1 => ?_) (fun c_18_1 => ?_)
      · have hs := hs.1 c_18_1
        refine lv_iinc (v := 2) (lv' := [(2, .int 2), (3, .int r_11_1), (1, .int 1), (0, .ref b)]) hx hb dX8_shots_38 hl (k := 1) rfl (by decide) (by decide) rfl (fun ls hl => ?_)
        refine lv_goto (tgt := 4) hx hb dX8_shots_41 (by decide) ?_
        refine lv_iload_n hx hb dX8_shots_4 rfl (lv_at hl 0 rfl) ?_
        refine lv_iconst (v := 2) hx hb dX8_shots_5 (by decide) ?_
        refine lv_icmp_ge (tgt := 44) hx hb dX8_shots_6 (by decide) (fun _ => ?_) (fun c => absurd c (by decide))
        refine lv_aload_n hx hb dX8_shots_44 rfl (lv_at hl 3 rfl) ?_
        refine lv_iconst (v := 3) hx hb dX8_shots_45 (by decide) ?_
        refine lv_dup2_11 hx hb dX8_shots_46 rfl rfl ?_
        refine va_iald hx hb hK hP 0 0 rfl rfl (i := 3) (vp_in_iff.mpr (by decide)) dX8_shots_47 ?_
        refine lt_top (y := (f 3)) rfl ?_
        refine lv_iconst (v := 1) hx hb dX8_shots_48 (by decide) ?_
        refine lv_iadd hx hb dX8_shots_49 ?_
        refine va_iast hx hb hK hP hD hS 0 0 rfl rfl (i := 3) (x := ((f 3) + 1)) (vp_in_iff.mpr (by decide)) dX8_shots_50 (fun H locs hP hD hS => ?_)
        have hP : va_P D vwCl (lt_Ro yI b 532 (upd f 3 ((f 3) + 1))) H := hP
        have hD : va_D A (lt_Ro yI b 532 (upd f 3 ((f 3) + 1))) := hD
        refine lv_iload_n hx hb dX8_shots_51 rfl (lv_at hl 2 rfl) ?_
        exact W.iret (v := 1) hx hb hret (fun t ht hW => ⟨⟨1, ((upd f 3 ((f 3) + 1))), rfl, (by subst e_r_11_1 e_r_11; exact (Eq.symm (Eq.trans (if_neg c_18) (Eq.trans (if_pos c_29) (Eq.trans (if_pos c_18_1) rfl))))), by rw [ht]; exact hP, hD⟩, hS.F ht⟩) hS.2.2 dX8_shots_52
      · have hs := hs.2 c_18_1
        refine lv_iinc (v := 2) (lv' := [(1, .int 2), (3, .int r_11_1), (2, .int 1), (0, .ref b)]) hx hb dX8_shots_21 hl (k := 2) rfl (by decide) (by decide) rfl (fun ls hl => ?_)
        refine lv_aload_n hx hb dX8_shots_24 rfl (lv_at hl 3 rfl) ?_
        refine lv_iconst (v := 2) hx hb dX8_shots_25 (by decide) ?_
        refine va_iald hx hb hK hP 0 0 rfl rfl (i := 2) (vp_in_iff.mpr (by decide)) dX8_shots_26 ?_
        refine lt_top (y := (f 2)) rfl ?_
        refine lv_bipush (v := 80) hx hb dX8_shots_27 (by decide) ?_
        refine lv_icmp_ge (tgt := 38) hx hb dX8_shots_29 (by decide) (fun c_29_1 => ?_) (fun c_29_1 => ?_)
        · have hs := hs.1 c_29_1
          refine lv_iinc (v := 2) (lv' := [(2, .int 2), (1, .int 2), (3, .int r_11_1), (0, .ref b)]) hx hb dX8_shots_38 hl (k := 2) rfl (by decide) (by decide) rfl (fun ls hl => ?_)
          refine lv_goto (tgt := 4) hx hb dX8_shots_41 (by decide) ?_
          refine lv_iload_n hx hb dX8_shots_4 rfl (lv_at hl 0 rfl) ?_
          refine lv_iconst (v := 2) hx hb dX8_shots_5 (by decide) ?_
          refine lv_icmp_ge (tgt := 44) hx hb dX8_shots_6 (by decide) (fun _ => ?_) (fun c => absurd c (by decide))
          refine lv_aload_n hx hb dX8_shots_44 rfl (lv_at hl 3 rfl) ?_
          refine lv_iconst (v := 3) hx hb dX8_shots_45 (by decide) ?_
          refine lv_dup2_11 hx hb dX8_shots_46 rfl rfl ?_
          refine va_iald hx hb hK hP 0 0 rfl rfl (i := 3) (vp_in_iff.mpr (by decide)) dX8_shots_47 ?_
          refine lt_top (y := (f 3)) rfl ?_
          refine lv_iconst (v := 1) hx hb dX8_shots_48 (by decide) ?_
          refine lv_iadd hx hb dX8_shots_49 ?_
          refine va_iast hx hb hK hP hD hS 0 0 rfl rfl (i := 3) (x := ((f 3) + 1)) (vp_in_iff.mpr (by decide)) dX8_shots_50 (fun H locs hP hD hS => ?_)
          have hP : va_P D vwCl (lt_Ro yI b 532 (upd f 3 ((f 3) + 1))) H := hP
          have hD : va_D A (lt_Ro yI b 532 (upd f 3 ((f 3) + 1))) := hD
          refine lv_iload_n hx hb dX8_shots_51 rfl (lv_at hl 1 rfl) ?_
          exact W.iret (v := 2) hx hb hret (fun t ht hW => ⟨⟨2, ((upd f 3 ((f 3) + 1))), rfl, (by subst e_r_11_1 e_r_11; exact (Eq.symm (Eq.trans (if_neg c_18) (Eq.trans (if_pos c_29) (Eq.trans (if_neg c_18_1) (Eq.trans (if_pos c_29_1) rfl)))))), by rw [ht]; exact hP, hD⟩, hS.F ht⟩) hS.2.2 dX8_shots_52
        · have hs := hs.2 c_29_1
          refine lv_aload_n hx hb dX8_shots_32 rfl (lv_at hl 3 rfl) ?_
          refine lv_iload_n hx hb dX8_shots_33 rfl (lv_at hl 1 rfl) ?_
          refine lv_iload_n hx hb dX8_shots_34 rfl (lv_at hl 2 rfl) ?_
          have ho_35 := hs.1; have hs := hs.2
          have hPc := hP.sub (ws' := lt_Ro yI b 532 f) [0] rfl
          have hDc := hD.sub (ws' := lt_Ro yI b 532 f) [0] (by decide) rfl
          refine lt_cWv (wc := lt_Ro yI b 532 f) (wr := []) (va_runS (As := [.ref b, .int r_11_1, .int 1]) (rest := []) ⟨hx, hb, hml, hown, hts⟩ (c_X8_takes l D yI yC yO b f r_11_1 1 _ ho_35) (va_cwS 3 hts gX8_shots_X8_takes rfl rfl rfl (by decide +kernel) ⟨Nat.le_of_ble_eq_true rfl, Nat.le_of_ble_eq_true rfl⟩) (lt_qS hK0 hPc hDc) rfl rfl hl.1 rfl (lv_room (Nat.le_of_ble_eq_true rfl)) dX8_shots_35 ⟨Nat.zero_le _, Nat.zero_le _⟩) hP hD hS hA [0] [] rfl rfl (by decide) (by decide) (fun x_35 e_x_35 H locs hP hD hS => ?_)
          have hP := hP.sub (ws' := lt_Ro yI b 532 x_35) [0] rfl
          have hD := hD.sub (ws' := lt_Ro yI b 532 x_35) [0] (by decide) rfl
          have hs := hs x_35 e_x_35
          refine lv_iinc (v := 2) (lv' := [(2, .int 2), (1, .int 2), (3, .int r_11_1), (0, .ref b)]) hx hb dX8_shots_38 hl (k := 2) rfl (by decide) (by decide) rfl (fun ls hl => ?_)
          refine lv_goto (tgt := 4) hx hb dX8_shots_41 (by decide) ?_
          refine lv_iload_n hx hb dX8_shots_4 rfl (lv_at hl 0 rfl) ?_
          refine lv_iconst (v := 2) hx hb dX8_shots_5 (by decide) ?_
          refine lv_icmp_ge (tgt := 44) hx hb dX8_shots_6 (by decide) (fun _ => ?_) (fun c => absurd c (by decide))
          refine lv_aload_n hx hb dX8_shots_44 rfl (lv_at hl 3 rfl) ?_
          refine lv_iconst (v := 3) hx hb dX8_shots_45 (by decide) ?_
          refine lv_dup2_11 hx hb dX8_shots_46 rfl rfl ?_
          refine va_iald hx hb hK hP 0 0 rfl rfl (i := 3) (vp_in_iff.mpr (by decide)) dX8_shots_47 ?_
          refine lt_top (y := (x_35 3)) rfl ?_
          refine lv_iconst (v := 1) hx hb dX8_shots_48 (by decide) ?_
          refine lv_iadd hx hb dX8_shots_49 ?_
          refine va_iast hx hb hK hP hD hS 0 0 rfl rfl (i := 3) (x := ((x_35 3) + 1)) (vp_in_iff.mpr (by decide)) dX8_shots_50 (fun H locs hP hD hS => ?_)
          have hP : va_P D vwCl (lt_Ro yI b 532 (upd x_35 3 ((x_35 3) + 1))) H := hP
          have hD : va_D A (lt_Ro yI b 532 (upd x_35 3 ((x_35 3) + 1))) := hD
          refine lv_iload_n hx hb dX8_shots_51 rfl (lv_at hl 1 rfl) ?_
          exact W.iret (v := 2) hx hb hret (fun t ht hW => ⟨⟨2, ((upd x_35 3 ((x_35 3) + 1))), rfl, (by subst e_x_35 e_r_11_1 e_r_11; exact (Eq.symm (Eq.trans (if_neg c_18) (Eq.trans (if_pos c_29) (Eq.trans (if_neg c_18_1) (Eq.trans (if_neg c_29_1) rfl)))))), by rw [ht]; exact hP, hD⟩, hS.F ht⟩) hS.2.2 dX8_shots_52
    · have hs := hs.2 c_29
      refine lv_aload_n hx hb dX8_shots_32 rfl (lv_at hl 3 rfl) ?_
      refine lv_iload_n hx hb dX8_shots_33 rfl (lv_at hl 1 rfl) ?_
      refine lv_iload_n hx hb dX8_shots_34 rfl (lv_at hl 2 rfl) ?_
      have ho_35 := hs.1; have hs := hs.2
      have hPc := hP.sub (ws' := lt_Ro yI b 532 f) [0] rfl
      have hDc := hD.sub (ws' := lt_Ro yI b 532 f) [0] (by decide) rfl
      refine lt_cWv (wc := lt_Ro yI b 532 f) (wr := []) (va_runS (As := [.ref b, .int r_11, .int 0]) (rest := []) ⟨hx, hb, hml, hown, hts⟩ (c_X8_takes l D yI yC yO b f r_11 0 _ ho_35) (va_cwS 3 hts gX8_shots_X8_takes rfl rfl rfl (by decide +kernel) ⟨Nat.le_of_ble_eq_true rfl, Nat.le_of_ble_eq_true rfl⟩) (lt_qS hK0 hPc hDc) rfl rfl hl.1 rfl (lv_room (Nat.le_of_ble_eq_true rfl)) dX8_shots_35 ⟨Nat.zero_le _, Nat.zero_le _⟩) hP hD hS hA [0] [] rfl rfl (by decide) (by decide) (fun x_35 e_x_35 H locs hP hD hS => ?_)
      have hP := hP.sub (ws' := lt_Ro yI b 532 x_35) [0] rfl
      have hD := hD.sub (ws' := lt_Ro yI b 532 x_35) [0] (by decide) rfl
      have hs := hs x_35 e_x_35
      refine lv_iinc (v := 1) (lv' := [(2, .int 1), (1, .int 1), (3, .int r_11), (0, .ref b)]) hx hb dX8_shots_38 hl (k := 2) rfl (by decide) (by decide) rfl (fun ls hl => ?_)
      refine lv_goto (tgt := 4) hx hb dX8_shots_41 (by decide) ?_
      refine lv_iload_n hx hb dX8_shots_4 rfl (lv_at hl 0 rfl) ?_
      refine lv_iconst (v := 2) hx hb dX8_shots_5 (by decide) ?_
      refine lv_icmp_ge (tgt := 44) hx hb dX8_shots_6 (by decide) (fun c => absurd c (by decide)) (fun _ => ?_)
      refine lv_aload_n hx hb dX8_shots_9 rfl (lv_at hl 3 rfl) ?_
      refine lv_iload_n hx hb dX8_shots_10 rfl (lv_at hl 0 rfl) ?_
      have ho_11_1 := hs.1; have hs := hs.2
      have hPc := hP.sub (ws' := lt_Ro yI b 532 x_35) [0] rfl
      refine lt_cR (va_runS (As := [.ref b, .int 1]) (rest := []) ⟨hx, hb, hml, hown, hts⟩ (c_X8_openOn l D yI yC yO b x_35 1 ho_11_1) (va_cwS 2 hts gX8_shots_X8_openOn rfl rfl rfl (by decide +kernel) ⟨Nat.le_of_ble_eq_true rfl, Nat.le_of_ble_eq_true rfl⟩) (lt_pS hK0 hPc) rfl rfl hl.1 rfl (lv_room (Nat.le_of_ble_eq_true rfl)) dX8_shots_11 ⟨Nat.zero_le _, Nat.zero_le _⟩) (fun r_11_1 e_r_11_1 => ?_)
      have hs := hs r_11_1 e_r_11_1
      refine lv_istore_n (lv' := [(3, .int r_11_1), (2, .int 1), (1, .int 1), (0, .ref b)]) hx hb dX8_shots_14 rfl hl (by decide) rfl (fun ls hl => ?_)
      refine lv_iload_n hx hb dX8_shots_15 rfl (lv_at hl 0 rfl) ?_
      refine lv_bipush (v := (-5)) hx hb dX8_shots_16 (by decide) ?_
      refine lv_icmp_eq (tgt := 38) hx hb dX8_shots_18 (by decide) (fun c_18_1 => ?_) (fun c_18_1 => ?_)
      · have hs := hs.1 c_18_1
        refine lv_iinc (v := 2) (lv' := [(2, .int 2), (3, .int r_11_1), (1, .int 1), (0, .ref b)]) hx hb dX8_shots_38 hl (k := 1) rfl (by decide) (by decide) rfl (fun ls hl => ?_)
        refine lv_goto (tgt := 4) hx hb dX8_shots_41 (by decide) ?_
        refine lv_iload_n hx hb dX8_shots_4 rfl (lv_at hl 0 rfl) ?_
        refine lv_iconst (v := 2) hx hb dX8_shots_5 (by decide) ?_
        refine lv_icmp_ge (tgt := 44) hx hb dX8_shots_6 (by decide) (fun _ => ?_) (fun c => absurd c (by decide))
        refine lv_aload_n hx hb dX8_shots_44 rfl (lv_at hl 3 rfl) ?_
        refine lv_iconst (v := 3) hx hb dX8_shots_45 (by decide) ?_
        refine lv_dup2_11 hx hb dX8_shots_46 rfl rfl ?_
        refine va_iald hx hb hK hP 0 0 rfl rfl (i := 3) (vp_in_iff.mpr (by decide)) dX8_shots_47 ?_
        refine lt_top (y := (x_35 3)) rfl ?_
        refine lv_iconst (v := 1) hx hb dX8_shots_48 (by decide) ?_
        refine lv_iadd hx hb dX8_shots_49 ?_
        refine va_iast hx hb hK hP hD hS 0 0 rfl rfl (i := 3) (x := ((x_35 3) + 1)) (vp_in_iff.mpr (by decide)) dX8_shots_50 (fun H locs hP hD hS => ?_)
        have hP : va_P D vwCl (lt_Ro yI b 532 (upd x_35 3 ((x_35 3) + 1))) H := hP
        have hD : va_D A (lt_Ro yI b 532 (upd x_35 3 ((x_35 3) + 1))) := hD
        refine lv_iload_n hx hb dX8_shots_51 rfl (lv_at hl 2 rfl) ?_
        exact W.iret (v := 1) hx hb hret (fun t ht hW => ⟨⟨1, ((upd x_35 3 ((x_35 3) + 1))), rfl, (by subst e_r_11_1 e_x_35 e_r_11; exact (Eq.symm (Eq.trans (if_neg c_18) (Eq.trans (if_neg c_29) (Eq.trans (if_pos c_18_1) rfl))))), by rw [ht]; exact hP, hD⟩, hS.F ht⟩) hS.2.2 dX8_shots_52
      · have hs := hs.2 c_18_1
        refine lv_iinc (v := 2) (lv' := [(1, .int 2), (3, .int r_11_1), (2, .int 1), (0, .ref b)]) hx hb dX8_shots_21 hl (k := 2) rfl (by decide) (by decide) rfl (fun ls hl => ?_)
        refine lv_aload_n hx hb dX8_shots_24 rfl (lv_at hl 3 rfl) ?_
        refine lv_iconst (v := 2) hx hb dX8_shots_25 (by decide) ?_
        refine va_iald hx hb hK hP 0 0 rfl rfl (i := 2) (vp_in_iff.mpr (by decide)) dX8_shots_26 ?_
        refine lt_top (y := (x_35 2)) rfl ?_
        refine lv_bipush (v := 80) hx hb dX8_shots_27 (by decide) ?_
        refine lv_icmp_ge (tgt := 38) hx hb dX8_shots_29 (by decide) (fun c_29_1 => ?_) (fun c_29_1 => ?_)
        · have hs := hs.1 c_29_1
          refine lv_iinc (v := 2) (lv' := [(2, .int 2), (1, .int 2), (3, .int r_11_1), (0, .ref b)]) hx hb dX8_shots_38 hl (k := 2) rfl (by decide) (by decide) rfl (fun ls hl => ?_)
          refine lv_goto (tgt := 4) hx hb dX8_shots_41 (by decide) ?_
          refine lv_iload_n hx hb dX8_shots_4 rfl (lv_at hl 0 rfl) ?_
          refine lv_iconst (v := 2) hx hb dX8_shots_5 (by decide) ?_
          refine lv_icmp_ge (tgt := 44) hx hb dX8_shots_6 (by decide) (fun _ => ?_) (fun c => absurd c (by decide))
          refine lv_aload_n hx hb dX8_shots_44 rfl (lv_at hl 3 rfl) ?_
          refine lv_iconst (v := 3) hx hb dX8_shots_45 (by decide) ?_
          refine lv_dup2_11 hx hb dX8_shots_46 rfl rfl ?_
          refine va_iald hx hb hK hP 0 0 rfl rfl (i := 3) (vp_in_iff.mpr (by decide)) dX8_shots_47 ?_
          refine lt_top (y := (x_35 3)) rfl ?_
          refine lv_iconst (v := 1) hx hb dX8_shots_48 (by decide) ?_
          refine lv_iadd hx hb dX8_shots_49 ?_
          refine va_iast hx hb hK hP hD hS 0 0 rfl rfl (i := 3) (x := ((x_35 3) + 1)) (vp_in_iff.mpr (by decide)) dX8_shots_50 (fun H locs hP hD hS => ?_)
          have hP : va_P D vwCl (lt_Ro yI b 532 (upd x_35 3 ((x_35 3) + 1))) H := hP
          have hD : va_D A (lt_Ro yI b 532 (upd x_35 3 ((x_35 3) + 1))) := hD
          refine lv_iload_n hx hb dX8_shots_51 rfl (lv_at hl 1 rfl) ?_
          exact W.iret (v := 2) hx hb hret (fun t ht hW => ⟨⟨2, ((upd x_35 3 ((x_35 3) + 1))), rfl, (by subst e_r_11_1 e_x_35 e_r_11; exact (Eq.symm (Eq.trans (if_neg c_18) (Eq.trans (if_neg c_29) (Eq.trans (if_neg c_18_1) (Eq.trans (if_pos c_29_1) rfl)))))), by rw [ht]; exact hP, hD⟩, hS.F ht⟩) hS.2.2 dX8_shots_52
        · have hs := hs.2 c_29_1
          refine lv_aload_n hx hb dX8_shots_32 rfl (lv_at hl 3 rfl) ?_
          refine lv_iload_n hx hb dX8_shots_33 rfl (lv_at hl 1 rfl) ?_
          refine lv_iload_n hx hb dX8_shots_34 rfl (lv_at hl 2 rfl) ?_
          have ho_35_1 := hs.1; have hs := hs.2
          have hPc := hP.sub (ws' := lt_Ro yI b 532 x_35) [0] rfl
          have hDc := hD.sub (ws' := lt_Ro yI b 532 x_35) [0] (by decide) rfl
          refine lt_cWv (wc := lt_Ro yI b 532 x_35) (wr := []) (va_runS (As := [.ref b, .int r_11_1, .int 1]) (rest := []) ⟨hx, hb, hml, hown, hts⟩ (c_X8_takes l D yI yC yO b x_35 r_11_1 1 _ ho_35_1) (va_cwS 3 hts gX8_shots_X8_takes rfl rfl rfl (by decide +kernel) ⟨Nat.le_of_ble_eq_true rfl, Nat.le_of_ble_eq_true rfl⟩) (lt_qS hK0 hPc hDc) rfl rfl hl.1 rfl (lv_room (Nat.le_of_ble_eq_true rfl)) dX8_shots_35 ⟨Nat.zero_le _, Nat.zero_le _⟩) hP hD hS hA [0] [] rfl rfl (by decide) (by decide) (fun x_35_1 e_x_35_1 H locs hP hD hS => ?_)
          have hP := hP.sub (ws' := lt_Ro yI b 532 x_35_1) [0] rfl
          have hD := hD.sub (ws' := lt_Ro yI b 532 x_35_1) [0] (by decide) rfl
          have hs := hs x_35_1 e_x_35_1
          refine lv_iinc (v := 2) (lv' := [(2, .int 2), (1, .int 2), (3, .int r_11_1), (0, .ref b)]) hx hb dX8_shots_38 hl (k := 2) rfl (by decide) (by decide) rfl (fun ls hl => ?_)
          refine lv_goto (tgt := 4) hx hb dX8_shots_41 (by decide) ?_
          refine lv_iload_n hx hb dX8_shots_4 rfl (lv_at hl 0 rfl) ?_
          refine lv_iconst (v := 2) hx hb dX8_shots_5 (by decide) ?_
          refine lv_icmp_ge (tgt := 44) hx hb dX8_shots_6 (by decide) (fun _ => ?_) (fun c => absurd c (by decide))
          refine lv_aload_n hx hb dX8_shots_44 rfl (lv_at hl 3 rfl) ?_
          refine lv_iconst (v := 3) hx hb dX8_shots_45 (by decide) ?_
          refine lv_dup2_11 hx hb dX8_shots_46 rfl rfl ?_
          refine va_iald hx hb hK hP 0 0 rfl rfl (i := 3) (vp_in_iff.mpr (by decide)) dX8_shots_47 ?_
          refine lt_top (y := (x_35_1 3)) rfl ?_
          refine lv_iconst (v := 1) hx hb dX8_shots_48 (by decide) ?_
          refine lv_iadd hx hb dX8_shots_49 ?_
          refine va_iast hx hb hK hP hD hS 0 0 rfl rfl (i := 3) (x := ((x_35_1 3) + 1)) (vp_in_iff.mpr (by decide)) dX8_shots_50 (fun H locs hP hD hS => ?_)
          have hP : va_P D vwCl (lt_Ro yI b 532 (upd x_35_1 3 ((x_35_1 3) + 1))) H := hP
          have hD : va_D A (lt_Ro yI b 532 (upd x_35_1 3 ((x_35_1 3) + 1))) := hD
          refine lv_iload_n hx hb dX8_shots_51 rfl (lv_at hl 1 rfl) ?_
          exact W.iret (v := 2) hx hb hret (fun t ht hW => ⟨⟨2, ((upd x_35_1 3 ((x_35_1 3) + 1))), rfl, (by subst e_x_35_1 e_r_11_1 e_x_35 e_r_11; exact (Eq.symm (Eq.trans (if_neg c_18) (Eq.trans (if_neg c_29) (Eq.trans (if_neg c_18_1) (Eq.trans (if_neg c_29_1) rfl)))))), by rw [ht]; exact hP, hD⟩, hS.F ht⟩) hS.2.2 dX8_shots_52

def X8_ofPicture (i : Nat → Int32) (a : Nat → Nat → Int32) (p0 : Int32) (p1 : Int32) : Int32 :=
  ((a 0) ((132 + (5 * p0)) + p1).toNatClampNeg)
def S_X8_ofPicture (i : Nat → Int32) (a : Nat → Nat → Int32) (p0 : Int32) (p1 : Int32) : Prop :=
  (vp_in ((132 + (5 * p0)) + p1) 532) ∧
  True
theorem iw_X8_ofPicture_8 : ∀ w ∈ wsX80, w ∈ wsX8_ofPicture := by decide +kernel
set_option maxHeartbeats 4000000 in
set_option maxRecDepth 100000 in
theorem c_X8_ofPicture (l : Launch) (D : va_G) (yI yC yO : ClassId) (M : Nat → Nat) (i : Nat → Int32) (a : Nat → Nat → Int32) (p0 : Int32) (p1 : Int32) (hs : S_X8_ofPicture i a p0 p1) : Met l yX8_ofPicture wsX8_ofPicture ({ frames := 0, cells := 0, slots := 0, locals := 0 }) (va_Pc [.ref (M 0), .int p0, .int p1] (lt_R D yI yC yO (lt_Md yI yC M i a))) (lt_Si (X8_ofPicture i a p0 p1)) 0 0 (fun _ => False) := by
  refine Met.ofW (cc := cX8_ofPicture) (maxL := 3) (ret := (some .int)) (by decide) rfl ?_
  intro p e s m args below meth c s₁ B0 hml hv
  obtain ⟨rfl, hP, hK0⟩ := hv
  have hx := B0.exec
  have hb := B0.bytes
  have hret := B0.returns
  have hts := atoms_spec (ws := wsX8_ofPicture) B0.pre
  have hown : s.vm.findClass RX8 = some m.cls := findClass_of_methodNamed B0.named
  have hlocks := B0.notSynchronized
  have hK := hK0.1
  have hN := hK0.2
  have hP : va_P D vwCl (lt_Md yI yC M i a) s.heap := hP
  have hl := lv_entry ([.ref (M 0), .int p0, .int p1]) (n := 3) (Nat.le_of_ble_eq_true rfl)
  rw [lg_entry_eq]
  generalize (lg_sl ([.ref (M 0), .int p0, .int p1]) ++ List.replicate (3 - (lg_sl ([.ref (M 0), .int p0, .int p1])).length) Slot.unset).toArray = ls at hl ⊢
  have hl : lv_has ls 3 [(0, .ref (M 0)), (1, .int p0), (2, .int p1)] := hl
  refine lv_aload_n hx hb dX8_ofPicture_0 rfl (lv_at hl 0 rfl) ?_
  refine va_get (D := D) (ci := 8) (v := .ref (M 1)) (C := RX8) (T := TX8) (N := 13) hx hb hts iw_X8_ofPicture_8 hown hK hP 0 rfl rfl 0 (by decide) (hts (.fieldLink RX8 7 "LeafTurnerModel" "now" "[I") (by decide +kernel)) (fun _ h9 => h9) rfl dX8_ofPicture_1 ?_
  refine lv_sipush (v := 132) hx hb dX8_ofPicture_4 (by decide) ?_
  refine lv_iconst (v := 5) hx hb dX8_ofPicture_7 (by decide) ?_
  refine lv_iload_n hx hb dX8_ofPicture_8 rfl (lv_at hl 1 rfl) ?_
  refine lv_imul hx hb dX8_ofPicture_9 ?_
  refine lv_iadd hx hb dX8_ofPicture_10 ?_
  refine lv_iload_n hx hb dX8_ofPicture_11 rfl (lv_at hl 2 rfl) ?_
  refine lv_iadd hx hb dX8_ofPicture_12 ?_
  have ho_13 := hs.1; have hs := hs.2
  refine va_iald hx hb hK hP 1 0 rfl rfl (i := ((132 + (5 * p0)) + p1)) (ho_13) dX8_ofPicture_13 ?_
  exact W.iret (v := ((a 0) ((132 + (5 * p0)) + p1).toNatClampNeg)) hx hb hret (fun t ht hW => ⟨((a 0) ((132 + (5 * p0)) + p1).toNatClampNeg), rfl, (Eq.symm rfl), ht⟩) (fun _ h => absurd h List.not_mem_nil) dX8_ofPicture_14

def X8_guess (i : Nat → Int32) (a : Nat → Nat → Int32) (p0 : Int32) : Int32 :=
  let r_3 := X8_ofPicture i a p0 1
  let v_16 := r_3 - ((a 0) 11)
  if r_3 = (-5) then
    if p0 = 0 then
      (-5)
    else
      let v_60 := (a 5) (p0 - 1).toNatClampNeg
      if v_60 = (-5) then
        (-5)
      else
        let r_74 := X8_isPage i a (v_60 + 1)
        if r_74 = 0 then
          (-5)
        else
          (v_60 + 1)
  else
    let r_26 := X8_ofPicture i a p0 2
    if r_26 = 1 then
      let r_35 := X8_isPage i a v_16
      if r_35 = 0 then
        if p0 = 0 then
          (-5)
        else
          let v_60 := (a 5) (p0 - 1).toNatClampNeg
          if v_60 = (-5) then
            (-5)
          else
            let r_74 := X8_isPage i a (v_60 + 1)
            if r_74 = 0 then
              (-5)
            else
              (v_60 + 1)
      else
        v_16
    else
      if p0 = 0 then
        (-5)
      else
        let v_60 := (a 5) (p0 - 1).toNatClampNeg
        if v_60 = (-5) then
          (-5)
        else
          let r_74 := X8_isPage i a (v_60 + 1)
          if r_74 = 0 then
            (-5)
          else
            (v_60 + 1)
def S_X8_guess (i : Nat → Int32) (a : Nat → Nat → Int32) (p0 : Int32) : Prop :=
  (S_X8_ofPicture i a p0 1) ∧
  ∀ r_3, r_3 = X8_ofPicture i a p0 1 →
  ∀ v_16, v_16 = r_3 - ((a 0) 11) →
  (r_3 = (-5) →
    (p0 = 0 →
      True) ∧
    (¬ (p0 = 0) →
      (vp_in (p0 - 1) 80) ∧
      ∀ v_60, v_60 = (a 5) (p0 - 1).toNatClampNeg →
      (v_60 = (-5) →
        True) ∧
      (¬ (v_60 = (-5)) →
        (S_X8_isPage i a (v_60 + 1)) ∧
        ∀ r_74, r_74 = X8_isPage i a (v_60 + 1) →
        (r_74 = 0 →
          True) ∧
        (¬ (r_74 = 0) →
          True)))) ∧
  (¬ (r_3 = (-5)) →
    (S_X8_ofPicture i a p0 2) ∧
    ∀ r_26, r_26 = X8_ofPicture i a p0 2 →
    (r_26 = 1 →
      (S_X8_isPage i a v_16) ∧
      ∀ r_35, r_35 = X8_isPage i a v_16 →
      (r_35 = 0 →
        (p0 = 0 →
          True) ∧
        (¬ (p0 = 0) →
          (vp_in (p0 - 1) 80) ∧
          ∀ v_60, v_60 = (a 5) (p0 - 1).toNatClampNeg →
          (v_60 = (-5) →
            True) ∧
          (¬ (v_60 = (-5)) →
            (S_X8_isPage i a (v_60 + 1)) ∧
            ∀ r_74, r_74 = X8_isPage i a (v_60 + 1) →
            (r_74 = 0 →
              True) ∧
            (¬ (r_74 = 0) →
              True)))) ∧
      (¬ (r_35 = 0) →
        True)) ∧
    (¬ (r_26 = 1) →
      (p0 = 0 →
        True) ∧
      (¬ (p0 = 0) →
        (vp_in (p0 - 1) 80) ∧
        ∀ v_60, v_60 = (a 5) (p0 - 1).toNatClampNeg →
        (v_60 = (-5) →
          True) ∧
        (¬ (v_60 = (-5)) →
          (S_X8_isPage i a (v_60 + 1)) ∧
          ∀ r_74, r_74 = X8_isPage i a (v_60 + 1) →
          (r_74 = 0 →
            True) ∧
          (¬ (r_74 = 0) →
            True)))))
theorem iw_X8_guess_8 : ∀ w ∈ wsX80, w ∈ wsX8_guess := by decide +kernel
set_option maxHeartbeats 4000000 in
set_option maxRecDepth 100000 in
theorem c_X8_guess (l : Launch) (D : va_G) (yI yC yO : ClassId) (M : Nat → Nat) (i : Nat → Int32) (a : Nat → Nat → Int32) (p0 : Int32) (hs : S_X8_guess i a p0) : Met l yX8_guess wsX8_guess ({ frames := 2, cells := 0, slots := 0, locals := 60 }) (va_Pc [.ref (M 0), .int p0] (lt_R D yI yC yO (lt_Md yI yC M i a))) (lt_Si (X8_guess i a p0)) 0 0 (fun _ => False) := by
  refine Met.ofW (cc := cX8_guess) (maxL := 5) (ret := (some .int)) (by decide) rfl ?_
  intro p e s m args below meth c s₁ B0 hml hv
  obtain ⟨rfl, hP, hK0⟩ := hv
  have hx := B0.exec
  have hb := B0.bytes
  have hret := B0.returns
  have hts := atoms_spec (ws := wsX8_guess) B0.pre
  have hown : s.vm.findClass RX8 = some m.cls := findClass_of_methodNamed B0.named
  have hlocks := B0.notSynchronized
  have hK := hK0.1
  have hN := hK0.2
  have hP : va_P D vwCl (lt_Md yI yC M i a) s.heap := hP
  have hl := lv_entry ([.ref (M 0), .int p0]) (n := 5) (Nat.le_of_ble_eq_true rfl)
  rw [lg_entry_eq]
  generalize (lg_sl ([.ref (M 0), .int p0]) ++ List.replicate (5 - (lg_sl ([.ref (M 0), .int p0])).length) Slot.unset).toArray = ls at hl ⊢
  have hl : lv_has ls 5 [(0, .ref (M 0)), (1, .int p0)] := hl
  refine lv_aload_n hx hb dX8_guess_0 rfl (lv_at hl 0 rfl) ?_
  refine lv_iload_n hx hb dX8_guess_1 rfl (lv_at hl 1 rfl) ?_
  refine lv_iconst (v := 1) hx hb dX8_guess_2 (by decide) ?_
  have ho_3 := hs.1; have hs := hs.2
  have hPc := hP.sub (ws' := lt_Md yI yC M i a) [0, 1, 2, 3, 4, 5, 6, 7, 8] rfl
  refine lt_cR (va_runV (As := [.int p0, .int 1]) (rest := []) ⟨hx, hb, hml, hown, hts⟩ (c_X8_ofPicture l D yI yC yO M i a p0 1 ho_3) (cwV 2 hts gX8_guess_X8_ofPicture rfl rfl rfl (by decide +kernel) ⟨Nat.le_of_ble_eq_true rfl, Nat.le_of_ble_eq_true rfl⟩) (lt_pV hK0 hPc (va_recv hK hPc (ci := 8) (q0 := 0) rfl rfl)) rfl rfl hl.1 rfl (lv_room (Nat.le_of_ble_eq_true rfl)) dX8_guess_3 ⟨Nat.zero_le _, Nat.zero_le _⟩) (fun r_3 e_r_3 => ?_)
  have hs := hs r_3 e_r_3
  refine lv_istore_n (lv' := [(2, .int r_3), (0, .ref (M 0)), (1, .int p0)]) hx hb dX8_guess_6 rfl hl (by decide) rfl (fun ls hl => ?_)
  refine lv_iload_n hx hb dX8_guess_7 rfl (lv_at hl 0 rfl) ?_
  refine lv_aload_n hx hb dX8_guess_8 rfl (lv_at hl 1 rfl) ?_
  refine va_get (D := D) (ci := 8) (v := .ref (M 1)) (C := RX8) (T := TX8) (N := 13) hx hb hts iw_X8_guess_8 hown hK hP 0 rfl rfl 0 (by decide) (hts (.fieldLink RX8 7 "LeafTurnerModel" "now" "[I") (by decide +kernel)) (fun _ h9 => h9) rfl dX8_guess_9 ?_
  refine lv_bipush (v := 11) hx hb dX8_guess_12 (by decide) ?_
  refine va_iald hx hb hK hP 1 0 rfl rfl (i := 11) (vp_in_iff.mpr (by decide)) dX8_guess_14 ?_
  refine lt_top (y := ((a 0) 11)) rfl ?_
  refine lv_isub hx hb dX8_guess_15 ?_
  refine lv_topi (fun v_16 e_v_16 => ?_)
  have hs := hs v_16 e_v_16
  refine lv_istore_n (lv' := [(3, .int v_16), (2, .int r_3), (0, .ref (M 0)), (1, .int p0)]) hx hb dX8_guess_16 rfl hl (by decide) rfl (fun ls hl => ?_)
  refine lv_iload_n hx hb dX8_guess_17 rfl (lv_at hl 1 rfl) ?_
  refine lv_bipush (v := (-5)) hx hb dX8_guess_18 (by decide) ?_
  refine lv_icmp_eq (tgt := 43) hx hb dX8_guess_20 (by decide) (fun c_20 => ?_) (fun c_20 => ?_)
  · have hs := hs.1 c_20
    refine lv_iload_n hx hb dX8_guess_43 rfl (lv_at hl 3 rfl) ?_
    refine lv_if_ne (tgt := 52) hx hb dX8_guess_44 (by decide) (fun c_44 => ?_) (fun c_44 => ?_)
    · have hs := hs.2 c_44
      refine lv_aload_n hx hb dX8_guess_52 rfl (lv_at hl 2 rfl) ?_
      refine va_get (D := D) (ci := 8) (v := .ref (M 6)) (C := RX8) (T := TX8) (N := 13) hx hb hts iw_X8_guess_8 hown hK hP 0 rfl rfl 8 (by decide) (hts (.fieldLink RX8 26 "LeafTurnerModel" "guesses" "[I") (by decide +kernel)) (fun _ h9 => h9) rfl dX8_guess_53 ?_
      refine lv_iload_n hx hb dX8_guess_56 rfl (lv_at hl 3 rfl) ?_
      refine lv_iconst (v := 1) hx hb dX8_guess_57 (by decide) ?_
      refine lv_isub hx hb dX8_guess_58 ?_
      have ho_59 := hs.1; have hs := hs.2
      refine va_iald hx hb hK hP 6 0 rfl rfl (i := (p0 - 1)) (ho_59) dX8_guess_59 ?_
      refine lv_topi (fun v_60 e_v_60 => ?_)
      have hs := hs v_60 e_v_60
      refine lv_istore (lv' := [(4, .int v_60), (3, .int v_16), (2, .int r_3), (0, .ref (M 0)), (1, .int p0)]) hx hb dX8_guess_60 hl (by decide) rfl (fun ls hl => ?_)
      refine lv_iload hx hb dX8_guess_62 (lv_at hl 0 rfl) ?_
      refine lv_bipush (v := (-5)) hx hb dX8_guess_64 (by decide) ?_
      refine lv_icmp_eq (tgt := 87) hx hb dX8_guess_66 (by decide) (fun c_66 => ?_) (fun c_66 => ?_)
      · have hs := hs.1 c_66
        refine lv_bipush (v := (-5)) hx hb dX8_guess_87 (by decide) ?_
        exact W.iret (v := (-5)) hx hb hret (fun t ht hW => ⟨(-5), rfl, (by subst e_v_60 e_v_16 e_r_3; exact (Eq.symm (Eq.trans (if_pos c_20) (Eq.trans (if_neg c_44) (Eq.trans (if_pos c_66) rfl))))), ht⟩) (fun _ h => absurd h List.not_mem_nil) dX8_guess_89
      · have hs := hs.2 c_66
        refine lv_aload_n hx hb dX8_guess_69 rfl (lv_at hl 3 rfl) ?_
        refine lv_iload hx hb dX8_guess_70 (lv_at hl 0 rfl) ?_
        refine lv_iconst (v := 1) hx hb dX8_guess_72 (by decide) ?_
        refine lv_iadd hx hb dX8_guess_73 ?_
        have ho_74 := hs.1; have hs := hs.2
        have hPc := hP.sub (ws' := lt_Md yI yC M i a) [0, 1, 2, 3, 4, 5, 6, 7, 8] rfl
        refine lt_cR (va_runV (As := [.int (v_60 + 1)]) (rest := []) ⟨hx, hb, hml, hown, hts⟩ (c_X8_isPage l D yI yC yO M i a (v_60 + 1) ho_74) (cwV 1 hts gX8_guess_X8_isPage rfl rfl rfl (by decide +kernel) ⟨Nat.le_of_ble_eq_true rfl, Nat.le_of_ble_eq_true rfl⟩) (lt_pV hK0 hPc (va_recv hK hPc (ci := 8) (q0 := 0) rfl rfl)) rfl rfl hl.1 rfl (lv_room (Nat.le_of_ble_eq_true rfl)) dX8_guess_74 ⟨Nat.zero_le _, Nat.zero_le _⟩) (fun r_74 e_r_74 => ?_)
        have hs := hs r_74 e_r_74
        refine lv_if_eq (tgt := 87) hx hb dX8_guess_77 (by decide) (fun c_77 => ?_) (fun c_77 => ?_)
        · have hs := hs.1 c_77
          refine lv_bipush (v := (-5)) hx hb dX8_guess_87 (by decide) ?_
          exact W.iret (v := (-5)) hx hb hret (fun t ht hW => ⟨(-5), rfl, (by subst e_r_74 e_v_60 e_v_16 e_r_3; exact (Eq.symm (Eq.trans (if_pos c_20) (Eq.trans (if_neg c_44) (Eq.trans (if_neg c_66) (Eq.trans (if_pos c_77) rfl)))))), ht⟩) (fun _ h => absurd h List.not_mem_nil) dX8_guess_89
        · have hs := hs.2 c_77
          refine lv_iload hx hb dX8_guess_80 (lv_at hl 0 rfl) ?_
          refine lv_iconst (v := 1) hx hb dX8_guess_82 (by decide) ?_
          refine lv_iadd hx hb dX8_guess_83 ?_
          refine lv_goto (tgt := 89) hx hb dX8_guess_84 (by decide) ?_
          exact W.iret (v := (v_60 + 1)) hx hb hret (fun t ht hW => ⟨(v_60 + 1), rfl, (by subst e_r_74 e_v_60 e_v_16 e_r_3; exact (Eq.symm (Eq.trans (if_pos c_20) (Eq.trans (if_neg c_44) (Eq.trans (if_neg c_66) (Eq.trans (if_neg c_77) rfl)))))), ht⟩) (fun _ h => absurd h List.not_mem_nil) dX8_guess_89
    · have hs := hs.1 c_44
      refine lv_bipush (v := (-5)) hx hb dX8_guess_47 (by decide) ?_
      refine lv_goto (tgt := 60) hx hb dX8_guess_49 (by decide) ?_
      refine lv_istore (lv' := [(4, .int (-5)), (3, .int v_16), (2, .int r_3), (0, .ref (M 0)), (1, .int p0)]) hx hb dX8_guess_60 hl (by decide) rfl (fun ls hl => ?_)
      refine lv_iload hx hb dX8_guess_62 (lv_at hl 0 rfl) ?_
      refine lv_bipush (v := (-5)) hx hb dX8_guess_64 (by decide) ?_
      refine lv_icmp_eq (tgt := 87) hx hb dX8_guess_66 (by decide) (fun _ => ?_) (fun c => absurd c (by decide))
      refine lv_bipush (v := (-5)) hx hb dX8_guess_87 (by decide) ?_
      exact W.iret (v := (-5)) hx hb hret (fun t ht hW => ⟨(-5), rfl, (by subst e_v_16 e_r_3; exact (Eq.symm (Eq.trans (if_pos c_20) (Eq.trans (if_pos c_44) rfl)))), ht⟩) (fun _ h => absurd h List.not_mem_nil) dX8_guess_89
  · have hs := hs.2 c_20
    refine lv_aload_n hx hb dX8_guess_23 rfl (lv_at hl 2 rfl) ?_
    refine lv_iload_n hx hb dX8_guess_24 rfl (lv_at hl 3 rfl) ?_
    refine lv_iconst (v := 2) hx hb dX8_guess_25 (by decide) ?_
    have ho_26 := hs.1; have hs := hs.2
    have hPc := hP.sub (ws' := lt_Md yI yC M i a) [0, 1, 2, 3, 4, 5, 6, 7, 8] rfl
    refine lt_cR (va_runV (As := [.int p0, .int 2]) (rest := []) ⟨hx, hb, hml, hown, hts⟩ (c_X8_ofPicture l D yI yC yO M i a p0 2 ho_26) (cwV 2 hts gX8_guess_X8_ofPicture rfl rfl rfl (by decide +kernel) ⟨Nat.le_of_ble_eq_true rfl, Nat.le_of_ble_eq_true rfl⟩) (lt_pV hK0 hPc (va_recv hK hPc (ci := 8) (q0 := 0) rfl rfl)) rfl rfl hl.1 rfl (lv_room (Nat.le_of_ble_eq_true rfl)) dX8_guess_26 ⟨Nat.zero_le _, Nat.zero_le _⟩) (fun r_26 e_r_26 => ?_)
    have hs := hs r_26 e_r_26
    refine lv_iconst (v := 1) hx hb dX8_guess_29 (by decide) ?_
    refine lv_icmp_ne (tgt := 43) hx hb dX8_guess_30 (by decide) (fun c_30 => ?_) (fun c_30 => ?_)
    · have hs := hs.2 c_30
      refine lv_iload_n hx hb dX8_guess_43 rfl (lv_at hl 3 rfl) ?_
      refine lv_if_ne (tgt := 52) hx hb dX8_guess_44 (by decide) (fun c_44 => ?_) (fun c_44 => ?_)
      · have hs := hs.2 c_44
        refine lv_aload_n hx hb dX8_guess_52 rfl (lv_at hl 2 rfl) ?_
        refine va_get (D := D) (ci := 8) (v := .ref (M 6)) (C := RX8) (T := TX8) (N := 13) hx hb hts iw_X8_guess_8 hown hK hP 0 rfl rfl 8 (by decide) (hts (.fieldLink RX8 26 "LeafTurnerModel" "guesses" "[I") (by decide +kernel)) (fun _ h9 => h9) rfl dX8_guess_53 ?_
        refine lv_iload_n hx hb dX8_guess_56 rfl (lv_at hl 3 rfl) ?_
        refine lv_iconst (v := 1) hx hb dX8_guess_57 (by decide) ?_
        refine lv_isub hx hb dX8_guess_58 ?_
        have ho_59 := hs.1; have hs := hs.2
        refine va_iald hx hb hK hP 6 0 rfl rfl (i := (p0 - 1)) (ho_59) dX8_guess_59 ?_
        refine lv_topi (fun v_60 e_v_60 => ?_)
        have hs := hs v_60 e_v_60
        refine lv_istore (lv' := [(4, .int v_60), (3, .int v_16), (2, .int r_3), (0, .ref (M 0)), (1, .int p0)]) hx hb dX8_guess_60 hl (by decide) rfl (fun ls hl => ?_)
        refine lv_iload hx hb dX8_guess_62 (lv_at hl 0 rfl) ?_
        refine lv_bipush (v := (-5)) hx hb dX8_guess_64 (by decide) ?_
        refine lv_icmp_eq (tgt := 87) hx hb dX8_guess_66 (by decide) (fun c_66 => ?_) (fun c_66 => ?_)
        · have hs := hs.1 c_66
          refine lv_bipush (v := (-5)) hx hb dX8_guess_87 (by decide) ?_
          exact W.iret (v := (-5)) hx hb hret (fun t ht hW => ⟨(-5), rfl, (by subst e_v_60 e_r_26 e_v_16 e_r_3; exact (Eq.symm (Eq.trans (if_neg c_20) (Eq.trans (if_neg c_30) (Eq.trans (if_neg c_44) (Eq.trans (if_pos c_66) rfl)))))), ht⟩) (fun _ h => absurd h List.not_mem_nil) dX8_guess_89
        · have hs := hs.2 c_66
          refine lv_aload_n hx hb dX8_guess_69 rfl (lv_at hl 3 rfl) ?_
          refine lv_iload hx hb dX8_guess_70 (lv_at hl 0 rfl) ?_
          refine lv_iconst (v := 1) hx hb dX8_guess_72 (by decide) ?_
          refine lv_iadd hx hb dX8_guess_73 ?_
          have ho_74 := hs.1; have hs := hs.2
          have hPc := hP.sub (ws' := lt_Md yI yC M i a) [0, 1, 2, 3, 4, 5, 6, 7, 8] rfl
          refine lt_cR (va_runV (As := [.int (v_60 + 1)]) (rest := []) ⟨hx, hb, hml, hown, hts⟩ (c_X8_isPage l D yI yC yO M i a (v_60 + 1) ho_74) (cwV 1 hts gX8_guess_X8_isPage rfl rfl rfl (by decide +kernel) ⟨Nat.le_of_ble_eq_true rfl, Nat.le_of_ble_eq_true rfl⟩) (lt_pV hK0 hPc (va_recv hK hPc (ci := 8) (q0 := 0) rfl rfl)) rfl rfl hl.1 rfl (lv_room (Nat.le_of_ble_eq_true rfl)) dX8_guess_74 ⟨Nat.zero_le _, Nat.zero_le _⟩) (fun r_74 e_r_74 => ?_)
          have hs := hs r_74 e_r_74
          refine lv_if_eq (tgt := 87) hx hb dX8_guess_77 (by decide) (fun c_77 => ?_) (fun c_77 => ?_)
          · have hs := hs.1 c_77
            refine lv_bipush (v := (-5)) hx hb dX8_guess_87 (by decide) ?_
            exact W.iret (v := (-5)) hx hb hret (fun t ht hW => ⟨(-5), rfl, (by subst e_r_74 e_v_60 e_r_26 e_v_16 e_r_3; exact (Eq.symm (Eq.trans (if_neg c_20) (Eq.trans (if_neg c_30) (Eq.trans (if_neg c_44) (Eq.trans (if_neg c_66) (Eq.trans (if_pos c_77) rfl))))))), ht⟩) (fun _ h => absurd h List.not_mem_nil) dX8_guess_89
          · have hs := hs.2 c_77
            refine lv_iload hx hb dX8_guess_80 (lv_at hl 0 rfl) ?_
            refine lv_iconst (v := 1) hx hb dX8_guess_82 (by decide) ?_
            refine lv_iadd hx hb dX8_guess_83 ?_
            refine lv_goto (tgt := 89) hx hb dX8_guess_84 (by decide) ?_
            exact W.iret (v := (v_60 + 1)) hx hb hret (fun t ht hW => ⟨(v_60 + 1), rfl, (by subst e_r_74 e_v_60 e_r_26 e_v_16 e_r_3; exact (Eq.symm (Eq.trans (if_neg c_20) (Eq.trans (if_neg c_30) (Eq.trans (if_neg c_44) (Eq.trans (if_neg c_66) (Eq.trans (if_neg c_77) rfl))))))), ht⟩) (fun _ h => absurd h List.not_mem_nil) dX8_guess_89
      · have hs := hs.1 c_44
        refine lv_bipush (v := (-5)) hx hb dX8_guess_47 (by decide) ?_
        refine lv_goto (tgt := 60) hx hb dX8_guess_49 (by decide) ?_
        refine lv_istore (lv' := [(4, .int (-5)), (3, .int v_16), (2, .int r_3), (0, .ref (M 0)), (1, .int p0)]) hx hb dX8_guess_60 hl (by decide) rfl (fun ls hl => ?_)
        refine lv_iload hx hb dX8_guess_62 (lv_at hl 0 rfl) ?_
        refine lv_bipush (v := (-5)) hx hb dX8_guess_64 (by decide) ?_
        refine lv_icmp_eq (tgt := 87) hx hb dX8_guess_66 (by decide) (fun _ => ?_) (fun c => absurd c (by decide))
        refine lv_bipush (v := (-5)) hx hb dX8_guess_87 (by decide) ?_
        exact W.iret (v := (-5)) hx hb hret (fun t ht hW => ⟨(-5), rfl, (by subst e_r_26 e_v_16 e_r_3; exact (Eq.symm (Eq.trans (if_neg c_20) (Eq.trans (if_neg c_30) (Eq.trans (if_pos c_44) rfl))))), ht⟩) (fun _ h => absurd h List.not_mem_nil) dX8_guess_89
    · have hs := hs.1 c_30
      refine lv_aload_n hx hb dX8_guess_33 rfl (lv_at hl 2 rfl) ?_
      refine lv_iload_n hx hb dX8_guess_34 rfl (lv_at hl 0 rfl) ?_
      have ho_35 := hs.1; have hs := hs.2
      have hPc := hP.sub (ws' := lt_Md yI yC M i a) [0, 1, 2, 3, 4, 5, 6, 7, 8] rfl
      refine lt_cR (va_runV (As := [.int v_16]) (rest := []) ⟨hx, hb, hml, hown, hts⟩ (c_X8_isPage l D yI yC yO M i a v_16 ho_35) (cwV 1 hts gX8_guess_X8_isPage rfl rfl rfl (by decide +kernel) ⟨Nat.le_of_ble_eq_true rfl, Nat.le_of_ble_eq_true rfl⟩) (lt_pV hK0 hPc (va_recv hK hPc (ci := 8) (q0 := 0) rfl rfl)) rfl rfl hl.1 rfl (lv_room (Nat.le_of_ble_eq_true rfl)) dX8_guess_35 ⟨Nat.zero_le _, Nat.zero_le _⟩) (fun r_35 e_r_35 => ?_)
      have hs := hs r_35 e_r_35
      refine lv_if_eq (tgt := 43) hx hb dX8_guess_38 (by decide) (fun c_38 => ?_) (fun c_38 => ?_)
      · have hs := hs.1 c_38
        refine lv_iload_n hx hb dX8_guess_43 rfl (lv_at hl 3 rfl) ?_
        refine lv_if_ne (tgt := 52) hx hb dX8_guess_44 (by decide) (fun c_44 => ?_) (fun c_44 => ?_)
        · have hs := hs.2 c_44
          refine lv_aload_n hx hb dX8_guess_52 rfl (lv_at hl 2 rfl) ?_
          refine va_get (D := D) (ci := 8) (v := .ref (M 6)) (C := RX8) (T := TX8) (N := 13) hx hb hts iw_X8_guess_8 hown hK hP 0 rfl rfl 8 (by decide) (hts (.fieldLink RX8 26 "LeafTurnerModel" "guesses" "[I") (by decide +kernel)) (fun _ h9 => h9) rfl dX8_guess_53 ?_
          refine lv_iload_n hx hb dX8_guess_56 rfl (lv_at hl 3 rfl) ?_
          refine lv_iconst (v := 1) hx hb dX8_guess_57 (by decide) ?_
          refine lv_isub hx hb dX8_guess_58 ?_
          have ho_59 := hs.1; have hs := hs.2
          refine va_iald hx hb hK hP 6 0 rfl rfl (i := (p0 - 1)) (ho_59) dX8_guess_59 ?_
          refine lv_topi (fun v_60 e_v_60 => ?_)
          have hs := hs v_60 e_v_60
          refine lv_istore (lv' := [(4, .int v_60), (3, .int v_16), (2, .int r_3), (0, .ref (M 0)), (1, .int p0)]) hx hb dX8_guess_60 hl (by decide) rfl (fun ls hl => ?_)
          refine lv_iload hx hb dX8_guess_62 (lv_at hl 0 rfl) ?_
          refine lv_bipush (v := (-5)) hx hb dX8_guess_64 (by decide) ?_
          refine lv_icmp_eq (tgt := 87) hx hb dX8_guess_66 (by decide) (fun c_66 => ?_) (fun c_66 => ?_)
          · have hs := hs.1 c_66
            refine lv_bipush (v := (-5)) hx hb dX8_guess_87 (by decide) ?_
            exact W.iret (v := (-5)) hx hb hret (fun t ht hW => ⟨(-5), rfl, (by subst e_v_60 e_r_35 e_r_26 e_v_16 e_r_3; exact (Eq.symm (Eq.trans (if_neg c_20) (Eq.trans (if_pos c_30) (Eq.trans (if_pos c_38) (Eq.trans (if_neg c_44) (Eq.trans (if_pos c_66) rfl))))))), ht⟩) (fun _ h => absurd h List.not_mem_nil) dX8_guess_89
          · have hs := hs.2 c_66
            refine lv_aload_n hx hb dX8_guess_69 rfl (lv_at hl 3 rfl) ?_
            refine lv_iload hx hb dX8_guess_70 (lv_at hl 0 rfl) ?_
            refine lv_iconst (v := 1) hx hb dX8_guess_72 (by decide) ?_
            refine lv_iadd hx hb dX8_guess_73 ?_
            have ho_74 := hs.1; have hs := hs.2
            have hPc := hP.sub (ws' := lt_Md yI yC M i a) [0, 1, 2, 3, 4, 5, 6, 7, 8] rfl
            refine lt_cR (va_runV (As := [.int (v_60 + 1)]) (rest := []) ⟨hx, hb, hml, hown, hts⟩ (c_X8_isPage l D yI yC yO M i a (v_60 + 1) ho_74) (cwV 1 hts gX8_guess_X8_isPage rfl rfl rfl (by decide +kernel) ⟨Nat.le_of_ble_eq_true rfl, Nat.le_of_ble_eq_true rfl⟩) (lt_pV hK0 hPc (va_recv hK hPc (ci := 8) (q0 := 0) rfl rfl)) rfl rfl hl.1 rfl (lv_room (Nat.le_of_ble_eq_true rfl)) dX8_guess_74 ⟨Nat.zero_le _, Nat.zero_le _⟩) (fun r_74 e_r_74 => ?_)
            have hs := hs r_74 e_r_74
            refine lv_if_eq (tgt := 87) hx hb dX8_guess_77 (by decide) (fun c_77 => ?_) (fun c_77 => ?_)
            · have hs := hs.1 c_77
              refine lv_bipush (v := (-5)) hx hb dX8_guess_87 (by decide) ?_
              exact W.iret (v := (-5)) hx hb hret (fun t ht hW => ⟨(-5), rfl, (by subst e_r_74 e_v_60 e_r_35 e_r_26 e_v_16 e_r_3; exact (Eq.symm (Eq.trans (if_neg c_20) (Eq.trans (if_pos c_30) (Eq.trans (if_pos c_38) (Eq.trans (if_neg c_44) (Eq.trans (if_neg c_66) (Eq.trans (if_pos c_77) rfl)))))))), ht⟩) (fun _ h => absurd h List.not_mem_nil) dX8_guess_89
            · have hs := hs.2 c_77
              refine lv_iload hx hb dX8_guess_80 (lv_at hl 0 rfl) ?_
              refine lv_iconst (v := 1) hx hb dX8_guess_82 (by decide) ?_
              refine lv_iadd hx hb dX8_guess_83 ?_
              refine lv_goto (tgt := 89) hx hb dX8_guess_84 (by decide) ?_
              exact W.iret (v := (v_60 + 1)) hx hb hret (fun t ht hW => ⟨(v_60 + 1), rfl, (by subst e_r_74 e_v_60 e_r_35 e_r_26 e_v_16 e_r_3; exact (Eq.symm (Eq.trans (if_neg c_20) (Eq.trans (if_pos c_30) (Eq.trans (if_pos c_38) (Eq.trans (if_neg c_44) (Eq.trans (if_neg c_66) (Eq.trans (if_neg c_77) rfl)))))))), ht⟩) (fun _ h => absurd h List.not_mem_nil) dX8_guess_89
        · have hs := hs.1 c_44
          refine lv_bipush (v := (-5)) hx hb dX8_guess_47 (by decide) ?_
          refine lv_goto (tgt := 60) hx hb dX8_guess_49 (by decide) ?_
          refine lv_istore (lv' := [(4, .int (-5)), (3, .int v_16), (2, .int r_3), (0, .ref (M 0)), (1, .int p0)]) hx hb dX8_guess_60 hl (by decide) rfl (fun ls hl => ?_)
          refine lv_iload hx hb dX8_guess_62 (lv_at hl 0 rfl) ?_
          refine lv_bipush (v := (-5)) hx hb dX8_guess_64 (by decide) ?_
          refine lv_icmp_eq (tgt := 87) hx hb dX8_guess_66 (by decide) (fun _ => ?_) (fun c => absurd c (by decide))
          refine lv_bipush (v := (-5)) hx hb dX8_guess_87 (by decide) ?_
          exact W.iret (v := (-5)) hx hb hret (fun t ht hW => ⟨(-5), rfl, (by subst e_r_35 e_r_26 e_v_16 e_r_3; exact (Eq.symm (Eq.trans (if_neg c_20) (Eq.trans (if_pos c_30) (Eq.trans (if_pos c_38) (Eq.trans (if_pos c_44) rfl)))))), ht⟩) (fun _ h => absurd h List.not_mem_nil) dX8_guess_89
      · have hs := hs.2 c_38
        refine lv_iload_n hx hb dX8_guess_41 rfl (lv_at hl 0 rfl) ?_
        exact W.iret (v := v_16) hx hb hret (fun t ht hW => ⟨v_16, rfl, (by subst e_r_35 e_r_26 e_v_16 e_r_3; exact (Eq.symm (Eq.trans (if_neg c_20) (Eq.trans (if_pos c_30) (Eq.trans (if_neg c_38) rfl))))), ht⟩) (fun _ h => absurd h List.not_mem_nil) dX8_guess_42

def X8_isDoubtful (i : Nat → Int32) (a : Nat → Nat → Int32) (p0 : Int32) : Int32 :=
  if ((a 6) p0.toNatClampNeg) = (-5) then
    0
  else
    let r_19 := X8_ofPicture i a ((a 6) p0.toNatClampNeg) 0
    if r_19 = p0 then
      0
    else
      1
def S_X8_isDoubtful (i : Nat → Int32) (a : Nat → Nat → Int32) (p0 : Int32) : Prop :=
  (vp_in p0 60) ∧
  (((a 6) p0.toNatClampNeg) = (-5) →
    True) ∧
  (¬ (((a 6) p0.toNatClampNeg) = (-5)) →
    (vp_in p0 60) ∧
    (S_X8_ofPicture i a ((a 6) p0.toNatClampNeg) 0) ∧
    ∀ r_19, r_19 = X8_ofPicture i a ((a 6) p0.toNatClampNeg) 0 →
    (r_19 = p0 →
      True) ∧
    (¬ (r_19 = p0) →
      True))
theorem iw_X8_isDoubtful_8 : ∀ w ∈ wsX80, w ∈ wsX8_isDoubtful := by decide +kernel
set_option maxHeartbeats 4000000 in
set_option maxRecDepth 100000 in
theorem c_X8_isDoubtful (l : Launch) (D : va_G) (yI yC yO : ClassId) (M : Nat → Nat) (i : Nat → Int32) (a : Nat → Nat → Int32) (p0 : Int32) (hs : S_X8_isDoubtful i a p0) : Met l yX8_isDoubtful wsX8_isDoubtful ({ frames := 1, cells := 0, slots := 0, locals := 30 }) (va_Pc [.ref (M 0), .int p0] (lt_R D yI yC yO (lt_Md yI yC M i a))) (lt_Si (X8_isDoubtful i a p0)) 0 0 (fun _ => False) := by
  refine Met.ofW (cc := cX8_isDoubtful) (maxL := 2) (ret := (some .boolean)) (by decide) rfl ?_
  intro p e s m args below meth c s₁ B0 hml hv
  obtain ⟨rfl, hP, hK0⟩ := hv
  have hx := B0.exec
  have hb := B0.bytes
  have hret := B0.returns
  have hts := atoms_spec (ws := wsX8_isDoubtful) B0.pre
  have hown : s.vm.findClass RX8 = some m.cls := findClass_of_methodNamed B0.named
  have hlocks := B0.notSynchronized
  have hK := hK0.1
  have hN := hK0.2
  have hP : va_P D vwCl (lt_Md yI yC M i a) s.heap := hP
  have hl := lv_entry ([.ref (M 0), .int p0]) (n := 2) (Nat.le_of_ble_eq_true rfl)
  rw [lg_entry_eq]
  generalize (lg_sl ([.ref (M 0), .int p0]) ++ List.replicate (2 - (lg_sl ([.ref (M 0), .int p0])).length) Slot.unset).toArray = ls at hl ⊢
  have hl : lv_has ls 2 [(0, .ref (M 0)), (1, .int p0)] := hl
  refine lv_aload_n hx hb dX8_isDoubtful_0 rfl (lv_at hl 0 rfl) ?_
  refine va_get (D := D) (ci := 8) (v := .ref (M 7)) (C := RX8) (T := TX8) (N := 13) hx hb hts iw_X8_isDoubtful_8 hown hK hP 0 rfl rfl 9 (by decide) (hts (.fieldLink RX8 29 "LeafTurnerModel" "chosen" "[I") (by decide +kernel)) (fun _ h9 => h9) rfl dX8_isDoubtful_1 ?_
  refine lv_iload_n hx hb dX8_isDoubtful_4 rfl (lv_at hl 1 rfl) ?_
  have ho_5 := hs.1; have hs := hs.2
  refine va_iald hx hb hK hP 7 0 rfl rfl (i := p0) (ho_5) dX8_isDoubtful_5 ?_
  refine lv_bipush (v := (-5)) hx hb dX8_isDoubtful_6 (by decide) ?_
  refine lv_icmp_eq (tgt := 30) hx hb dX8_isDoubtful_8 (by decide) (fun c_8 => ?_) (fun c_8 => ?_)
  · have hs := hs.1 c_8
    refine lv_iconst (v := 0) hx hb dX8_isDoubtful_30 (by decide) ?_
    exact W.zret (v := 0) hx hb hret lt_z0 (fun t ht hW => ⟨0, rfl, (Eq.symm (Eq.trans (if_pos c_8) rfl)), ht⟩) (fun _ h => absurd h List.not_mem_nil) dX8_isDoubtful_31
  · have hs := hs.2 c_8
    refine lv_aload_n hx hb dX8_isDoubtful_11 rfl (lv_at hl 0 rfl) ?_
    refine lv_aload_n hx hb dX8_isDoubtful_12 rfl (lv_at hl 0 rfl) ?_
    refine va_get (D := D) (ci := 8) (v := .ref (M 7)) (C := RX8) (T := TX8) (N := 13) hx hb hts iw_X8_isDoubtful_8 hown hK hP 0 rfl rfl 9 (by decide) (hts (.fieldLink RX8 29 "LeafTurnerModel" "chosen" "[I") (by decide +kernel)) (fun _ h9 => h9) rfl dX8_isDoubtful_13 ?_
    refine lv_iload_n hx hb dX8_isDoubtful_16 rfl (lv_at hl 1 rfl) ?_
    have ho_17 := hs.1; have hs := hs.2
    refine va_iald hx hb hK hP 7 0 rfl rfl (i := p0) (ho_17) dX8_isDoubtful_17 ?_
    refine lv_iconst (v := 0) hx hb dX8_isDoubtful_18 (by decide) ?_
    have ho_19 := hs.1; have hs := hs.2
    have hPc := hP.sub (ws' := lt_Md yI yC M i a) [0, 1, 2, 3, 4, 5, 6, 7, 8] rfl
    refine lt_cR (va_runV (As := [.int ((a 6) p0.toNatClampNeg), .int 0]) (rest := []) ⟨hx, hb, hml, hown, hts⟩ (c_X8_ofPicture l D yI yC yO M i a ((a 6) p0.toNatClampNeg) 0 ho_19) (cwV 2 hts gX8_isDoubtful_X8_ofPicture rfl rfl rfl (by decide +kernel) ⟨Nat.le_of_ble_eq_true rfl, Nat.le_of_ble_eq_true rfl⟩) (lt_pV hK0 hPc (va_recv hK hPc (ci := 8) (q0 := 0) rfl rfl)) rfl rfl hl.1 rfl (lv_room (Nat.le_of_ble_eq_true rfl)) dX8_isDoubtful_19 ⟨Nat.zero_le _, Nat.zero_le _⟩) (fun r_19 e_r_19 => ?_)
    have hs := hs r_19 e_r_19
    refine lv_iload_n hx hb dX8_isDoubtful_22 rfl (lv_at hl 1 rfl) ?_
    refine lv_icmp_eq (tgt := 30) hx hb dX8_isDoubtful_23 (by decide) (fun c_23 => ?_) (fun c_23 => ?_)
    · have hs := hs.1 c_23
      refine lv_iconst (v := 0) hx hb dX8_isDoubtful_30 (by decide) ?_
      exact W.zret (v := 0) hx hb hret lt_z0 (fun t ht hW => ⟨0, rfl, (by subst e_r_19; exact (Eq.symm (Eq.trans (if_neg c_8) (Eq.trans (if_pos c_23) rfl)))), ht⟩) (fun _ h => absurd h List.not_mem_nil) dX8_isDoubtful_31
    · have hs := hs.2 c_23
      refine lv_iconst (v := 1) hx hb dX8_isDoubtful_26 (by decide) ?_
      refine lv_goto (tgt := 31) hx hb dX8_isDoubtful_27 (by decide) ?_
      exact W.zret (v := 1) hx hb hret lt_z1 (fun t ht hW => ⟨1, rfl, (by subst e_r_19; exact (Eq.symm (Eq.trans (if_neg c_8) (Eq.trans (if_neg c_23) rfl)))), ht⟩) (fun _ h => absurd h List.not_mem_nil) dX8_isDoubtful_31

def X8_isSpare (i : Nat → Int32) (a : Nat → Nat → Int32) (p0 : Int32) : Int32 :=
  if ((a 5) p0.toNatClampNeg) = (-5) then
    1
  else
    if ((a 6) ((a 5) p0.toNatClampNeg).toNatClampNeg) = p0 then
      0
    else
      1
def S_X8_isSpare (i : Nat → Int32) (a : Nat → Nat → Int32) (p0 : Int32) : Prop :=
  (vp_in p0 80) ∧
  (((a 5) p0.toNatClampNeg) = (-5) →
    True) ∧
  (¬ (((a 5) p0.toNatClampNeg) = (-5)) →
    (vp_in p0 80) ∧
    (vp_in ((a 5) p0.toNatClampNeg) 60) ∧
    (((a 6) ((a 5) p0.toNatClampNeg).toNatClampNeg) = p0 →
      True) ∧
    (¬ (((a 6) ((a 5) p0.toNatClampNeg).toNatClampNeg) = p0) →
      True))
theorem iw_X8_isSpare_8 : ∀ w ∈ wsX80, w ∈ wsX8_isSpare := by decide +kernel
set_option maxHeartbeats 4000000 in
set_option maxRecDepth 100000 in
theorem c_X8_isSpare (l : Launch) (D : va_G) (yI yC yO : ClassId) (M : Nat → Nat) (i : Nat → Int32) (a : Nat → Nat → Int32) (p0 : Int32) (hs : S_X8_isSpare i a p0) : Met l yX8_isSpare wsX8_isSpare ({ frames := 0, cells := 0, slots := 0, locals := 0 }) (va_Pc [.ref (M 0), .int p0] (lt_R D yI yC yO (lt_Md yI yC M i a))) (lt_Si (X8_isSpare i a p0)) 0 0 (fun _ => False) := by
  refine Met.ofW (cc := cX8_isSpare) (maxL := 2) (ret := (some .boolean)) (by decide) rfl ?_
  intro p e s m args below meth c s₁ B0 hml hv
  obtain ⟨rfl, hP, hK0⟩ := hv
  have hx := B0.exec
  have hb := B0.bytes
  have hret := B0.returns
  have hts := atoms_spec (ws := wsX8_isSpare) B0.pre
  have hown : s.vm.findClass RX8 = some m.cls := findClass_of_methodNamed B0.named
  have hlocks := B0.notSynchronized
  have hK := hK0.1
  have hN := hK0.2
  have hP : va_P D vwCl (lt_Md yI yC M i a) s.heap := hP
  have hl := lv_entry ([.ref (M 0), .int p0]) (n := 2) (Nat.le_of_ble_eq_true rfl)
  rw [lg_entry_eq]
  generalize (lg_sl ([.ref (M 0), .int p0]) ++ List.replicate (2 - (lg_sl ([.ref (M 0), .int p0])).length) Slot.unset).toArray = ls at hl ⊢
  have hl : lv_has ls 2 [(0, .ref (M 0)), (1, .int p0)] := hl
  refine lv_aload_n hx hb dX8_isSpare_0 rfl (lv_at hl 0 rfl) ?_
  refine va_get (D := D) (ci := 8) (v := .ref (M 6)) (C := RX8) (T := TX8) (N := 13) hx hb hts iw_X8_isSpare_8 hown hK hP 0 rfl rfl 8 (by decide) (hts (.fieldLink RX8 26 "LeafTurnerModel" "guesses" "[I") (by decide +kernel)) (fun _ h9 => h9) rfl dX8_isSpare_1 ?_
  refine lv_iload_n hx hb dX8_isSpare_4 rfl (lv_at hl 1 rfl) ?_
  have ho_5 := hs.1; have hs := hs.2
  refine va_iald hx hb hK hP 6 0 rfl rfl (i := p0) (ho_5) dX8_isSpare_5 ?_
  refine lv_bipush (v := (-5)) hx hb dX8_isSpare_6 (by decide) ?_
  refine lv_icmp_eq (tgt := 26) hx hb dX8_isSpare_8 (by decide) (fun c_8 => ?_) (fun c_8 => ?_)
  · have hs := hs.1 c_8
    refine lv_iconst (v := 1) hx hb dX8_isSpare_26 (by decide) ?_
    refine lv_goto (tgt := 31) hx hb dX8_isSpare_27 (by decide) ?_
    exact W.zret (v := 1) hx hb hret lt_z1 (fun t ht hW => ⟨1, rfl, (Eq.symm (Eq.trans (if_pos c_8) rfl)), ht⟩) (fun _ h => absurd h List.not_mem_nil) dX8_isSpare_31
  · have hs := hs.2 c_8
    refine lv_aload_n hx hb dX8_isSpare_11 rfl (lv_at hl 0 rfl) ?_
    refine va_get (D := D) (ci := 8) (v := .ref (M 7)) (C := RX8) (T := TX8) (N := 13) hx hb hts iw_X8_isSpare_8 hown hK hP 0 rfl rfl 9 (by decide) (hts (.fieldLink RX8 29 "LeafTurnerModel" "chosen" "[I") (by decide +kernel)) (fun _ h9 => h9) rfl dX8_isSpare_12 ?_
    refine lv_aload_n hx hb dX8_isSpare_15 rfl (lv_at hl 0 rfl) ?_
    refine va_get (D := D) (ci := 8) (v := .ref (M 6)) (C := RX8) (T := TX8) (N := 13) hx hb hts iw_X8_isSpare_8 hown hK hP 0 rfl rfl 8 (by decide) (hts (.fieldLink RX8 26 "LeafTurnerModel" "guesses" "[I") (by decide +kernel)) (fun _ h9 => h9) rfl dX8_isSpare_16 ?_
    refine lv_iload_n hx hb dX8_isSpare_19 rfl (lv_at hl 1 rfl) ?_
    have ho_20 := hs.1; have hs := hs.2
    refine va_iald hx hb hK hP 6 0 rfl rfl (i := p0) (ho_20) dX8_isSpare_20 ?_
    have ho_21 := hs.1; have hs := hs.2
    refine va_iald hx hb hK hP 7 0 rfl rfl (i := ((a 5) p0.toNatClampNeg)) (ho_21) dX8_isSpare_21 ?_
    refine lv_iload_n hx hb dX8_isSpare_22 rfl (lv_at hl 1 rfl) ?_
    refine lv_icmp_eq (tgt := 30) hx hb dX8_isSpare_23 (by decide) (fun c_23 => ?_) (fun c_23 => ?_)
    · have hs := hs.1 c_23
      refine lv_iconst (v := 0) hx hb dX8_isSpare_30 (by decide) ?_
      exact W.zret (v := 0) hx hb hret lt_z0 (fun t ht hW => ⟨0, rfl, (Eq.symm (Eq.trans (if_neg c_8) (Eq.trans (if_pos c_23) rfl))), ht⟩) (fun _ h => absurd h List.not_mem_nil) dX8_isSpare_31
    · have hs := hs.2 c_23
      refine lv_iconst (v := 1) hx hb dX8_isSpare_26 (by decide) ?_
      refine lv_goto (tgt := 31) hx hb dX8_isSpare_27 (by decide) ?_
      exact W.zret (v := 1) hx hb hret lt_z1 (fun t ht hW => ⟨1, rfl, (Eq.symm (Eq.trans (if_neg c_8) (Eq.trans (if_neg c_23) rfl))), ht⟩) (fun _ h => absurd h List.not_mem_nil) dX8_isSpare_31

def X8_shownBy_L4 (i : Nat → Int32) (a : Nat → Nat → Int32) (p0 : Int32) : Nat → (Int32) → (Int32) → Int32
  | 0, _, _ => 0
  | fu + 1, v2, v3 =>
    if ((a 0) 2) ≤ v3 then
      v2
    else
      let r_18 := X8_ofPicture i a v3 0
      if r_18 = p0 then
        X8_shownBy_L4 i a p0 fu (v2 + 1) (v3 + 1)
      else
        X8_shownBy_L4 i a p0 fu (v2 + 0) (v3 + 1)
def S_X8_shownBy_L4 (i : Nat → Int32) (a : Nat → Nat → Int32) (p0 : Int32) : Nat → (Int32) → (Int32) → Prop
  | 0, _, _ => True
  | fu + 1, v2, v3 =>
    (((a 0) 2) ≤ v3 →
      True) ∧
    (¬ (((a 0) 2) ≤ v3) →
      (S_X8_ofPicture i a v3 0) ∧
      ∀ r_18, r_18 = X8_ofPicture i a v3 0 →
      (r_18 = p0 →
        (S_X8_shownBy_L4 i a p0 fu (v2 + 1) (v3 + 1)) ∧
        True) ∧
      (¬ (r_18 = p0) →
        (S_X8_shownBy_L4 i a p0 fu (v2 + 0) (v3 + 1)) ∧
        True))
def X8_shownBy (i : Nat → Int32) (a : Nat → Nat → Int32) (p0 : Int32) : Int32 :=
  X8_shownBy_L4 i a p0 ((((a 0) 2 : Int32).toInt - (0 : Int32).toInt).toNat + 1) 0 0
def S_X8_shownBy (i : Nat → Int32) (a : Nat → Nat → Int32) (p0 : Int32) : Prop :=
  (S_X8_shownBy_L4 i a p0 ((((a 0) 2 : Int32).toInt - (0 : Int32).toInt).toNat + 1) 0 0) ∧
  True
theorem iw_X8_shownBy_8 : ∀ w ∈ wsX80, w ∈ wsX8_shownBy := by decide +kernel
set_option maxHeartbeats 4000000 in
set_option maxRecDepth 100000 in
theorem c_X8_shownBy (l : Launch) (D : va_G) (yI yC yO : ClassId) (M : Nat → Nat) (i : Nat → Int32) (a : Nat → Nat → Int32) (p0 : Int32) (hs : S_X8_shownBy i a p0) : Met l yX8_shownBy wsX8_shownBy ({ frames := 1, cells := 0, slots := 0, locals := 30 }) (va_Pc [.ref (M 0), .int p0] (lt_R D yI yC yO (lt_Md yI yC M i a))) (lt_Si (X8_shownBy i a p0)) 0 0 (fun _ => False) := by
  refine Met.ofW (cc := cX8_shownBy) (maxL := 4) (ret := (some .int)) (by decide) rfl ?_
  intro p e s m args below meth c s₁ B0 hml hv
  obtain ⟨rfl, hP, hK0⟩ := hv
  have hx := B0.exec
  have hb := B0.bytes
  have hret := B0.returns
  have hts := atoms_spec (ws := wsX8_shownBy) B0.pre
  have hown : s.vm.findClass RX8 = some m.cls := findClass_of_methodNamed B0.named
  have hlocks := B0.notSynchronized
  have hK := hK0.1
  have hN := hK0.2
  have hP : va_P D vwCl (lt_Md yI yC M i a) s.heap := hP
  have hl := lv_entry ([.ref (M 0), .int p0]) (n := 4) (Nat.le_of_ble_eq_true rfl)
  rw [lg_entry_eq]
  generalize (lg_sl ([.ref (M 0), .int p0]) ++ List.replicate (4 - (lg_sl ([.ref (M 0), .int p0])).length) Slot.unset).toArray = ls at hl ⊢
  have hl : lv_has ls 4 [(0, .ref (M 0)), (1, .int p0)] := hl
  refine lv_iconst (v := 0) hx hb dX8_shownBy_0 (by decide) ?_
  refine lv_istore_n (lv' := [(2, .int 0), (0, .ref (M 0)), (1, .int p0)]) hx hb dX8_shownBy_1 rfl hl (by decide) rfl (fun ls hl => ?_)
  refine lv_iconst (v := 0) hx hb dX8_shownBy_2 (by decide) ?_
  refine lv_istore_n (lv' := [(3, .int 0), (2, .int 0), (0, .ref (M 0)), (1, .int p0)]) hx hb dX8_shownBy_3 rfl hl (by decide) rfl (fun ls hl => ?_)
  refine lt_loop (σ := (Int32) × (Int32)) (fun fu (x : (Int32) × (Int32)) H locs ls => ∃ (v2 : Int32) (v3 : Int32), x = (v2, v3) ∧ lt_fu fu ((a 0) 2) (v3) ∧ X8_shownBy_L4 i a p0 fu v2 v3 = X8_shownBy i a p0 ∧ S_X8_shownBy_L4 i a p0 fu v2 v3 ∧ H = s.heap ∧ locs = [] ∧ lv_has ls 4 [(3, .int v3), (2, .int v2), (0, .ref (M 0)), (1, .int p0)]) ?_ ?_ ((((a 0) 2 : Int32).toInt - (0 : Int32).toInt).toNat + 1) (0, 0) _ _ _ ⟨0, 0, rfl, lt_fuI _ _, (Eq.symm rfl), hs.1, rfl, rfl, (lv_sub hl [0, 1, 2, 3] rfl)⟩
  · rintro x H locs ls ⟨_, _, -, hF, -⟩
    exact lt_fu0 hF
  · rintro fu ih x H locs ls ⟨v2, v3, rfl, hF, hT, hs, rfl, rfl, hl⟩
    refine lv_iload_n hx hb dX8_shownBy_4 rfl (lv_at hl 0 rfl) ?_
    refine lv_aload_n hx hb dX8_shownBy_5 rfl (lv_at hl 2 rfl) ?_
    refine va_get (D := D) (ci := 8) (v := .ref (M 1)) (C := RX8) (T := TX8) (N := 13) hx hb hts iw_X8_shownBy_8 hown hK hP 0 rfl rfl 0 (by decide) (hts (.fieldLink RX8 7 "LeafTurnerModel" "now" "[I") (by decide +kernel)) (fun _ h9 => h9) rfl dX8_shownBy_6 ?_
    refine lv_iconst (v := 2) hx hb dX8_shownBy_9 (by decide) ?_
    refine va_iald hx hb hK hP 1 0 rfl rfl (i := 2) (vp_in_iff.mpr (by decide)) dX8_shownBy_10 ?_
    refine lt_top (y := ((a 0) 2)) rfl ?_
    refine lv_icmp_ge (tgt := 38) hx hb dX8_shownBy_11 (by decide) (fun c_11 => ?_) (fun c_11 => ?_)
    · have hs := hs.1 c_11
      refine lv_iload_n hx hb dX8_shownBy_38 rfl (lv_at hl 1 rfl) ?_
      exact W.iret (v := v2) hx hb hret (fun t ht hW => ⟨v2, rfl, (Eq.trans (Eq.symm (Eq.trans (if_pos c_11) rfl)) hT), ht⟩) (fun _ h => absurd h List.not_mem_nil) dX8_shownBy_39
    · have hs := hs.2 c_11
      refine lv_iload_n hx hb dX8_shownBy_14 rfl (lv_at hl 1 rfl) ?_
      refine lv_aload_n hx hb dX8_shownBy_15 rfl (lv_at hl 2 rfl) ?_
      refine lv_iload_n hx hb dX8_shownBy_16 rfl (lv_at hl 0 rfl) ?_
      refine lv_iconst (v := 0) hx hb dX8_shownBy_17 (by decide) ?_
      have ho_18 := hs.1; have hs := hs.2
      have hPc := hP.sub (ws' := lt_Md yI yC M i a) [0, 1, 2, 3, 4, 5, 6, 7, 8] rfl
      refine lt_cR (va_runV (As := [.int v3, .int 0]) (rest := [.int v2]) ⟨hx, hb, hml, hown, hts⟩ (c_X8_ofPicture l D yI yC yO M i a v3 0 ho_18) (cwV 2 hts gX8_shownBy_X8_ofPicture rfl rfl rfl (by decide +kernel) ⟨Nat.le_of_ble_eq_true rfl, Nat.le_of_ble_eq_true rfl⟩) (lt_pV hK0 hPc (va_recv hK hPc (ci := 8) (q0 := 0) rfl rfl)) rfl rfl hl.1 rfl (lv_room (Nat.le_of_ble_eq_true rfl)) dX8_shownBy_18 ⟨Nat.zero_le _, Nat.zero_le _⟩) (fun r_18 e_r_18 => ?_)
      have hs := hs r_18 e_r_18
      refine lv_iload_n hx hb dX8_shownBy_21 rfl (lv_at hl 3 rfl) ?_
      refine lv_icmp_ne (tgt := 29) hx hb dX8_shownBy_22 (by decide) (fun c_22 => ?_) (fun c_22 => ?_)
      · have hs := hs.2 c_22
        refine lv_iconst (v := 0) hx hb dX8_shownBy_29 (by decide) ?_
        refine lv_iadd hx hb dX8_shownBy_30 ?_
        refine lv_istore_n (lv' := [(2, .int (v2 + 0)), (3, .int v3), (0, .ref (M 0)), (1, .int p0)]) hx hb dX8_shownBy_31 rfl hl (by decide) rfl (fun ls hl => ?_)
        refine lv_iinc (v := (v3 + 1)) (lv' := [(3, .int (v3 + 1)), (2, .int (v2 + 0)), (0, .ref (M 0)), (1, .int p0)]) hx hb dX8_shownBy_32 hl (k := 1) rfl (rfl) (by decide) rfl (fun ls hl => ?_)
        refine lv_goto (tgt := 4) hx hb dX8_shownBy_35 (by decide) ?_
        exact ih ((v2 + 0), (v3 + 1)) _ _ _ ⟨(v2 + 0), (v3 + 1), rfl, lt_fuS hF (lt_nle c_11), (by subst e_r_18; exact (Eq.trans (Eq.symm (Eq.trans (if_neg c_11) (Eq.trans (if_neg c_22) rfl))) hT)), hs.1, rfl, rfl, lv_sub hl [0, 1, 2, 3] rfl⟩
      · have hs := hs.1 c_22
        refine lv_iconst (v := 1) hx hb dX8_shownBy_25 (by decide) ?_
        refine lv_goto (tgt := 30) hx hb dX8_shownBy_26 (by decide) ?_
        refine lv_iadd hx hb dX8_shownBy_30 ?_
        refine lv_istore_n (lv' := [(2, .int (v2 + 1)), (3, .int v3), (0, .ref (M 0)), (1, .int p0)]) hx hb dX8_shownBy_31 rfl hl (by decide) rfl (fun ls hl => ?_)
        refine lv_iinc (v := (v3 + 1)) (lv' := [(3, .int (v3 + 1)), (2, .int (v2 + 1)), (0, .ref (M 0)), (1, .int p0)]) hx hb dX8_shownBy_32 hl (k := 1) rfl (rfl) (by decide) rfl (fun ls hl => ?_)
        refine lv_goto (tgt := 4) hx hb dX8_shownBy_35 (by decide) ?_
        exact ih ((v2 + 1), (v3 + 1)) _ _ _ ⟨(v2 + 1), (v3 + 1), rfl, lt_fuS hF (lt_nle c_11), (by subst e_r_18; exact (Eq.trans (Eq.symm (Eq.trans (if_neg c_11) (Eq.trans (if_pos c_22) rfl))) hT)), hs.1, rfl, rfl, lv_sub hl [0, 1, 2, 3] rfl⟩
