def X3_has (n : Nat) (f : Nat → Int32) (p0 : Int32) : Int32 :=
  if p0 < 0 then
    0
  else
    if (Int32.ofNat n) ≤ p0 then
      0
    else
      1
theorem iw_X3_has_3 : ∀ w ∈ wsX30, w ∈ wsX3_has := by decide +kernel
set_option maxHeartbeats 4000000 in
set_option maxRecDepth 100000 in
theorem c_X3_has (l : Launch) (D : va_G) (yI yC yO : ClassId) (a : Nat) (b : Nat) (n : Nat) (f : Nat → Int32) (p0 : Int32) : Met l yX3_has wsX3_has ({ frames := 0, cells := 0, slots := 0, locals := 0 }) (va_Pc [.ref a, .int p0] (lt_R D yI yC yO (lt_N2 yI a b n f))) (lt_Si (X3_has n f p0)) 0 0 (fun _ => False) := by
  refine Met.ofW (cc := cX3_has) (maxL := 2) (ret := (some .boolean)) (by decide) rfl ?_
  intro p e s m args below meth c s₁ B0 hml hv
  obtain ⟨rfl, hP, hK0⟩ := hv
  have hx := B0.exec
  have hb := B0.bytes
  have hret := B0.returns
  have hts := atoms_spec (ws := wsX3_has) B0.pre
  have hown : s.vm.findClass RX3 = some m.cls := findClass_of_methodNamed B0.named
  have hlocks := B0.notSynchronized
  have hK := hK0.1
  have hN := hK0.2
  have hP : va_P D vwCl (lt_N2 yI a b n f) s.heap := hP
  have hl := lv_entry ([.ref a, .int p0]) (n := 2) (Nat.le_of_ble_eq_true rfl)
  rw [lg_entry_eq]
  generalize (lg_sl ([.ref a, .int p0]) ++ List.replicate (2 - (lg_sl ([.ref a, .int p0])).length) Slot.unset).toArray = ls at hl ⊢
  have hl : lv_has ls 2 [(0, .ref a), (1, .int p0)] := hl
  refine lv_iload_n hx hb dX3_has_0 rfl (lv_at hl 1 rfl) ?_
  refine lv_if_lt (tgt := 17) hx hb dX3_has_1 (by decide) (fun c_1 => ?_) (fun c_1 => ?_)
  · refine lv_iconst (v := 0) hx hb dX3_has_17 (by decide) ?_
    exact W.zret (v := 0) hx hb hret lt_z0 (fun t ht hW => ⟨0, rfl, (Eq.symm (Eq.trans (if_pos c_1) rfl)), ht⟩) (fun _ h => absurd h List.not_mem_nil) dX3_has_18
  · refine lv_iload_n hx hb dX3_has_4 rfl (lv_at hl 1 rfl) ?_
    refine lv_aload_n hx hb dX3_has_5 rfl (lv_at hl 0 rfl) ?_
    refine va_get (D := D) (ci := 3) (v := .ref b) (C := RX3) (T := TX3) (N := 1) hx hb hts iw_X3_has_3 hown hK hP 0 rfl rfl 0 (by decide) (hts (.fieldLink RX3 15 "LeafTurner$Numbers" "cells" "[I") (by decide +kernel)) (fun _ h9 => h9) rfl dX3_has_6 ?_
    refine va_alen (v := (Int32.ofNat n)) hx hb hK hP 1 0 rfl rfl rfl dX3_has_9 ?_
    refine lv_icmp_ge (tgt := 17) hx hb dX3_has_10 (by decide) (fun c_10 => ?_) (fun c_10 => ?_)
    · refine lv_iconst (v := 0) hx hb dX3_has_17 (by decide) ?_
      exact W.zret (v := 0) hx hb hret lt_z0 (fun t ht hW => ⟨0, rfl, (Eq.symm (Eq.trans (if_neg c_1) (Eq.trans (if_pos c_10) rfl))), ht⟩) (fun _ h => absurd h List.not_mem_nil) dX3_has_18
    · refine lv_iconst (v := 1) hx hb dX3_has_13 (by decide) ?_
      refine lv_goto (tgt := 18) hx hb dX3_has_14 (by decide) ?_
      exact W.zret (v := 1) hx hb hret lt_z1 (fun t ht hW => ⟨1, rfl, (Eq.symm (Eq.trans (if_neg c_1) (Eq.trans (if_neg c_10) rfl))), ht⟩) (fun _ h => absurd h List.not_mem_nil) dX3_has_18

theorem lt_has {n : Nat} {f : Nat → Int32} {i : Int32} (hn : n < 2147483648) (h : ¬ X3_has n f i = 0) : vp_in i n := by
  unfold X3_has at h
  split at h
  · exact absurd rfl h
  · split at h
    · exact absurd rfl h
    · next h1 h2 =>
      have h3 := Int32.lt_iff_toInt_lt.mp (lt_nle h2)
      have h4 := Int32.le_iff_toInt_le.mp (lt_nlt h1)
      have h5 : (Int32.ofNat n).toInt = (n : Int) := nI_toInt hn
      rw [h5] at h3
      have h6 : (0 : Int32).toInt = 0 := by decide
      rw [h6] at h4
      exact vp_in_iff.mpr ⟨h4, h3⟩
theorem lt_has01 {n : Nat} {f : Nat → Int32} {i : Int32} : X3_has n f i = 0 ∨ X3_has n f i = 1 := by
  unfold X3_has
  split
  · exact Or.inl rfl
  · split
    · exact Or.inl rfl
    · exact Or.inr rfl
theorem lt_hasE {n : Nat} {f : Nat → Int32} {i r : Int32} (hn : n < 2147483648) (e : r = X3_has n f i) (h : ¬ r = 0) : vp_in i n := by subst e; exact lt_has hn h
theorem lt_rm {n : Nat} {i : Int32} (hn : n < 2147483648) (h : vp_in i n) : ¬ i + 1 < 0 ∧ ¬ i < 0 ∧ ¬ Int32.ofNat n - 1 - i < 0 ∧ (i + 1).toNatClampNeg = i.toNatClampNeg + 1 ∧ (Int32.ofNat n - 1 - i).toNatClampNeg = n - 1 - i.toNatClampNeg ∧ i.toNatClampNeg < n := by
  obtain ⟨j, hj, rfl⟩ := vp_in_of h hn
  have h1 : nI j + 1 = nI (j + 1) := nI_1 j
  have h2 : Int32.ofNat n - 1 - nI j = nI (n - 1 - j) := by
    have e1 : Int32.ofNat n - 1 = nI (n - 1) := by
      obtain ⟨k, rfl⟩ : ∃ k, n = k + 1 := ⟨n - 1, by omega⟩
      exact nI_pred k
    rw [e1, pk_sub (by omega)]
  rw [h1, h2, nI_clamp (by omega), nI_clamp (by omega), nI_clamp (by omega)]
  exact ⟨nI_pos (by omega), nI_pos (by omega), nI_pos (by omega), rfl, rfl, hj⟩
def X3_copyFrom (n : Nat) (f : Nat → Int32) (f' : Nat → Int32) : Nat → Int32 := f'
theorem lt_cp {n : Nat} (hn : n < 2147483648) : (0 : Int32).toNatClampNeg + (Int32.ofNat n).toNatClampNeg ≤ n := by
  have h1 : (Int32.ofNat n).toNatClampNeg = n := nI_clamp hn
  have h2 : (0 : Int32).toNatClampNeg = 0 := by decide
  rw [h1, h2]; omega
theorem lt_cpJ {n j : Nat} {f g : Nat → Int32} (hn : n < 2147483648) (hj : j < n) : va_cpy f g 0 0 (Int32.ofNat n).toNatClampNeg j = f j := by
  have h1 : (Int32.ofNat n).toNatClampNeg = n := nI_clamp hn
  rw [h1, pk_cpy_in (Nat.zero_le _) (by omega)]
  simp
theorem lt_minn {n : Nat} : (if Int32.ofNat n < Int32.ofNat n then Int32.ofNat n else Int32.ofNat n) = Int32.ofNat n := by split <;> rfl

def X3_at (n : Nat) (f : Nat → Int32) (p0 : Int32) : Int32 :=
  let r_2 := X3_has n f p0
  if r_2 = 0 then
    (-5)
  else
    (f p0.toNatClampNeg)
theorem iw_X3_at_3 : ∀ w ∈ wsX30, w ∈ wsX3_at := by decide +kernel
set_option maxHeartbeats 4000000 in
set_option maxRecDepth 100000 in
theorem c_X3_at (l : Launch) (D : va_G) (yI yC yO : ClassId) (a : Nat) (b : Nat) (n : Nat) (f : Nat → Int32) (p0 : Int32) (hn : n < 2147483648) : Met l yX3_at wsX3_at ({ frames := 1, cells := 0, slots := 0, locals := 30 }) (va_Pc [.ref a, .int p0] (lt_R D yI yC yO (lt_N2 yI a b n f))) (lt_Si (X3_at n f p0)) 0 0 (fun _ => False) := by
  refine Met.ofW (cc := cX3_at) (maxL := 2) (ret := (some .int)) (by decide) rfl ?_
  intro p e s m args below meth c s₁ B0 hml hv
  obtain ⟨rfl, hP, hK0⟩ := hv
  have hx := B0.exec
  have hb := B0.bytes
  have hret := B0.returns
  have hts := atoms_spec (ws := wsX3_at) B0.pre
  have hown : s.vm.findClass RX3 = some m.cls := findClass_of_methodNamed B0.named
  have hlocks := B0.notSynchronized
  have hK := hK0.1
  have hN := hK0.2
  have hP : va_P D vwCl (lt_N2 yI a b n f) s.heap := hP
  have hl := lv_entry ([.ref a, .int p0]) (n := 2) (Nat.le_of_ble_eq_true rfl)
  rw [lg_entry_eq]
  generalize (lg_sl ([.ref a, .int p0]) ++ List.replicate (2 - (lg_sl ([.ref a, .int p0])).length) Slot.unset).toArray = ls at hl ⊢
  have hl : lv_has ls 2 [(0, .ref a), (1, .int p0)] := hl
  refine lv_aload_n hx hb dX3_at_0 rfl (lv_at hl 0 rfl) ?_
  refine lv_iload_n hx hb dX3_at_1 rfl (lv_at hl 1 rfl) ?_
  have hPc := hP.sub (ws' := lt_N2 yI a b n f) [0, 1] rfl
  refine lt_cR (va_runV (As := [.int p0]) (rest := []) ⟨hx, hb, hml, hown, hts⟩ (c_X3_has l D yI yC yO a b n f p0 ) (cwV 1 hts gX3_at_X3_has rfl rfl rfl (by decide +kernel) ⟨Nat.le_of_ble_eq_true rfl, Nat.le_of_ble_eq_true rfl⟩) (lt_pV hK0 hPc (va_recv hK hPc (ci := 3) (q0 := 0) rfl rfl)) rfl rfl hl.1 rfl (lv_room (Nat.le_of_ble_eq_true rfl)) dX3_at_2 ⟨Nat.zero_le _, Nat.zero_le _⟩) (fun r_2 e_r_2 => ?_)
  refine lv_if_eq (tgt := 17) hx hb dX3_at_5 (by decide) (fun c_5 => ?_) (fun c_5 => ?_)
  · refine lv_bipush (v := (-5)) hx hb dX3_at_17 (by decide) ?_
    exact W.iret (v := (-5)) hx hb hret (fun t ht hW => ⟨(-5), rfl, (by subst e_r_2; exact (Eq.symm (Eq.trans (if_pos c_5) rfl))), ht⟩) (fun _ h => absurd h List.not_mem_nil) dX3_at_19
  · refine lv_aload_n hx hb dX3_at_8 rfl (lv_at hl 0 rfl) ?_
    refine va_get (D := D) (ci := 3) (v := .ref b) (C := RX3) (T := TX3) (N := 1) hx hb hts iw_X3_at_3 hown hK hP 0 rfl rfl 0 (by decide) (hts (.fieldLink RX3 15 "LeafTurner$Numbers" "cells" "[I") (by decide +kernel)) (fun _ h9 => h9) rfl dX3_at_9 ?_
    refine lv_iload_n hx hb dX3_at_12 rfl (lv_at hl 1 rfl) ?_
    refine va_iald hx hb hK hP 1 0 rfl rfl (i := p0) (lt_hasE hn e_r_2 c_5) dX3_at_13 ?_
    refine lv_goto (tgt := 19) hx hb dX3_at_14 (by decide) ?_
    exact W.iret (v := (f p0.toNatClampNeg)) hx hb hret (fun t ht hW => ⟨(f p0.toNatClampNeg), rfl, (by subst e_r_2; exact (Eq.symm (Eq.trans (if_neg c_5) rfl))), ht⟩) (fun _ h => absurd h List.not_mem_nil) dX3_at_19

def X3_put (n : Nat) (f : Nat → Int32) (p0 : Int32) (p1 : Int32) : (Nat → Int32) :=
  let r_2 := X3_has n f p0
  if r_2 = 0 then
    (f)
  else
    ((upd f p0.toNatClampNeg p1))
theorem iw_X3_put_3 : ∀ w ∈ wsX30, w ∈ wsX3_put := by decide +kernel
set_option maxHeartbeats 4000000 in
set_option maxRecDepth 100000 in
theorem c_X3_put (l : Launch) (D : va_G) (yI yC yO : ClassId) (a : Nat) (b : Nat) (n : Nat) (f : Nat → Int32) (p0 : Int32) (p1 : Int32) (sz : Nat) (hn : n < 2147483648) : Met l yX3_put wsX3_put ({ frames := 1, cells := 0, slots := 0, locals := 30 }) (va_Pc [.ref a, .int p0, .int p1] (lt_M D yI yC yO (lt_N2 yI a b n f) sz)) (lt_Qv D (X3_put n f p0 p1) (fun u => lt_N2 yI a b n u) (va_A (lt_N2 yI a b n f) sz)) 0 0 (va_A (lt_N2 yI a b n f) sz) := by
  refine Met.ofW (cc := cX3_put) (maxL := 3) (ret := none) (by decide) rfl ?_
  intro p e s m args below meth c s₁ B0 hml hv
  obtain ⟨rfl, hsz, hP, hK0, hD0⟩ := hv
  have hx := B0.exec
  have hb := B0.bytes
  have hret := B0.returns
  have hts := atoms_spec (ws := wsX3_put) B0.pre
  have hown : s.vm.findClass RX3 = some m.cls := findClass_of_methodNamed B0.named
  have hlocks := B0.notSynchronized
  have hK := hK0.1
  have hN := hK0.2
  subst hsz
  have hD := hD0.self (sz := s.heap.size)
  generalize hAe : va_A (lt_N2 yI a b n f) s.heap.size = A at hD ⊢
  have hA : ∀ q : Nat, s.heap.size ≤ q → A q := fun q h => by rw [← hAe]; exact Or.inr h
  have hS : va_S A s.heap s.heap [] := va_S.rf
  have hP : va_P D vwCl (lt_N2 yI a b n f) s.heap := hP
  have hD : va_D A (lt_N2 yI a b n f) := hD
  have hl := lv_entry ([.ref a, .int p0, .int p1]) (n := 3) (Nat.le_of_ble_eq_true rfl)
  rw [lg_entry_eq]
  generalize (lg_sl ([.ref a, .int p0, .int p1]) ++ List.replicate (3 - (lg_sl ([.ref a, .int p0, .int p1])).length) Slot.unset).toArray = ls at hl ⊢
  have hl : lv_has ls 3 [(0, .ref a), (1, .int p0), (2, .int p1)] := hl
  refine lv_aload_n hx hb dX3_put_0 rfl (lv_at hl 0 rfl) ?_
  refine lv_iload_n hx hb dX3_put_1 rfl (lv_at hl 1 rfl) ?_
  have hPc := hP.sub (ws' := lt_N2 yI a b n f) [0, 1] rfl
  refine lt_cR (va_runV (As := [.int p0]) (rest := []) ⟨hx, hb, hml, hown, hts⟩ (c_X3_has l D yI yC yO a b n f p0 ) (cwV 1 hts gX3_put_X3_has rfl rfl rfl (by decide +kernel) ⟨Nat.le_of_ble_eq_true rfl, Nat.le_of_ble_eq_true rfl⟩) (lt_pV hK0 hPc (va_recv hK hPc (ci := 3) (q0 := 0) rfl rfl)) rfl rfl hl.1 rfl (lv_room (Nat.le_of_ble_eq_true rfl)) dX3_put_2 ⟨Nat.zero_le _, Nat.zero_le _⟩) (fun r_2 e_r_2 => ?_)
  refine lv_if_eq (tgt := 15) hx hb dX3_put_5 (by decide) (fun c_5 => ?_) (fun c_5 => ?_)
  · exact W.vret hx hb hret (fun t ht hW => ⟨⟨(f), rfl, (by subst e_r_2; exact (Eq.symm (Eq.trans (if_pos c_5) rfl))), by rw [ht]; exact hP, hD⟩, hS.F ht⟩) hS.2.2 dX3_put_15
  · refine lv_aload_n hx hb dX3_put_8 rfl (lv_at hl 0 rfl) ?_
    refine va_get (D := D) (ci := 3) (v := .ref b) (C := RX3) (T := TX3) (N := 1) hx hb hts iw_X3_put_3 hown hK hP 0 rfl rfl 0 (by decide) (hts (.fieldLink RX3 15 "LeafTurner$Numbers" "cells" "[I") (by decide +kernel)) (fun _ h9 => h9) rfl dX3_put_9 ?_
    refine lv_iload_n hx hb dX3_put_12 rfl (lv_at hl 1 rfl) ?_
    refine lv_iload_n hx hb dX3_put_13 rfl (lv_at hl 2 rfl) ?_
    refine va_iast hx hb hK hP hD hS 1 0 rfl rfl (i := p0) (x := p1) (lt_hasE hn e_r_2 c_5) dX3_put_14 (fun H locs hP hD hS => ?_)
    have hP : va_P D vwCl (lt_N2 yI a b n (upd f p0.toNatClampNeg p1)) H := hP
    have hD : va_D A (lt_N2 yI a b n (upd f p0.toNatClampNeg p1)) := hD
    exact W.vret hx hb hret (fun t ht hW => ⟨⟨((upd f p0.toNatClampNeg p1)), rfl, (by subst e_r_2; exact (Eq.symm (Eq.trans (if_neg c_5) rfl))), by rw [ht]; exact hP, hD⟩, hS.F ht⟩) hS.2.2 dX3_put_15

theorem lt_fin {n : Nat} {k : Int32} (hn : n < 2147483648) (h0 : 0 ≤ k.toInt) (h : k < Int32.ofNat n) : vp_in k n := by
  have h3 := Int32.lt_iff_toInt_lt.mp h
  have h5 : (Int32.ofNat n).toInt = (n : Int) := nI_toInt hn
  rw [h5] at h3
  exact vp_in_iff.mpr ⟨h0, h3⟩

def J7_fill_53178_L5 (n : Nat) (f : Nat → Int32) (p1 : Int32) : Nat → (Int32) → (Nat → Int32) → (Nat → Int32)
  | 0, _, _ => (f)
  | fu + 1, k, f0 =>
    if (Int32.ofNat n) ≤ k then
      (f0)
    else
      J7_fill_53178_L5 n f p1 fu (k + 1) (upd f0 k.toNatClampNeg p1)
def J7_fill_53178 (n : Nat) (f : Nat → Int32) (p1 : Int32) : (Nat → Int32) :=
  J7_fill_53178_L5 n f p1 (((Int32.ofNat n : Int32).toInt - (0 : Int32).toInt).toNat + 1) 0 f
set_option maxHeartbeats 4000000 in
set_option maxRecDepth 100000 in
theorem c_J7_fill_53178 (l : Launch) (D : va_G) (yI yC yO : ClassId) (b : Nat) (n : Nat) (f : Nat → Int32) (p1 : Int32) (sz : Nat) (hn : n < 2147483648) : Met l yJ7_fill_53178 wsJ7_fill_53178 ({ frames := 0, cells := 0, slots := 0, locals := 0 }) (va_Pc [.ref b, .int p1] (lt_M D yI yC yO (lt_Ro yI b n f) sz)) (lt_Qv D (J7_fill_53178 n f p1) (fun u => lt_Ro yI b n u) (va_A (lt_Ro yI b n f) sz)) 0 0 (va_A (lt_Ro yI b n f) sz) := by
  refine Met.ofW (cc := cJ7_fill_53178) (maxL := 4) (ret := none) (by decide) rfl ?_
  intro p e s m args below meth c s₁ B0 hml hv
  obtain ⟨rfl, hsz, hP, hK0, hD0⟩ := hv
  have hx := B0.exec
  have hb := B0.bytes
  have hret := B0.returns
  have hts := atoms_spec (ws := wsJ7_fill_53178) B0.pre
  have hown : s.vm.findClass RJ7 = some m.cls := findClass_of_methodNamed B0.named
  have hlocks := B0.notSynchronized
  have hK := hK0.1
  have hN := hK0.2
  subst hsz
  have hD := hD0.self (sz := s.heap.size)
  generalize hAe : va_A (lt_Ro yI b n f) s.heap.size = A at hD ⊢
  have hA : ∀ q : Nat, s.heap.size ≤ q → A q := fun q h => by rw [← hAe]; exact Or.inr h
  have hS : va_S A s.heap s.heap [] := va_S.rf
  have hP : va_P D vwCl (lt_Ro yI b n f) s.heap := hP
  have hD : va_D A (lt_Ro yI b n f) := hD
  have hl := lv_entry ([.ref b, .int p1]) (n := 4) (Nat.le_of_ble_eq_true rfl)
  rw [lg_entry_eq]
  generalize (lg_sl ([.ref b, .int p1]) ++ List.replicate (4 - (lg_sl ([.ref b, .int p1])).length) Slot.unset).toArray = ls at hl ⊢
  have hl : lv_has ls 4 [(0, .ref b), (1, .int p1)] := hl
  refine lv_iconst (v := 0) hx hb dJ7_fill_53178_0 (by decide) ?_
  refine lv_istore_n (lv' := [(2, .int 0), (0, .ref b), (1, .int p1)]) hx hb dJ7_fill_53178_1 rfl hl (by decide) rfl (fun ls hl => ?_)
  refine lv_aload_n hx hb dJ7_fill_53178_2 rfl (lv_at hl 1 rfl) ?_
  refine va_alen (v := (Int32.ofNat n)) hx hb hK hP 0 0 rfl rfl rfl dJ7_fill_53178_3 ?_
  refine lv_istore_n (lv' := [(3, .int (Int32.ofNat n)), (2, .int 0), (0, .ref b), (1, .int p1)]) hx hb dJ7_fill_53178_4 rfl hl (by decide) rfl (fun ls hl => ?_)
  refine lt_loop (σ := (Int32) × (Nat → Int32)) (fun fu (x : (Int32) × (Nat → Int32)) H locs ls => ∃ (k : Int32) (f0 : Nat → Int32), x = (k, f0) ∧ lt_fu fu (Int32.ofNat n) (k) ∧ J7_fill_53178_L5 n f p1 fu k f0 = J7_fill_53178 n f p1 ∧ (0 ≤ k.toInt) ∧ va_P D vwCl (lt_Ro yI b n f0) H ∧ va_D A (lt_Ro yI b n f0) ∧ va_S A s.heap H locs ∧ lv_has ls 4 [(3, .int (Int32.ofNat n)), (2, .int k), (0, .ref b), (1, .int p1)]) ?_ ?_ (((Int32.ofNat n : Int32).toInt - (0 : Int32).toInt).toNat + 1) (0, f) _ _ _ ⟨0, f, rfl, lt_fuI _ _, (Eq.symm rfl), (by decide), hP, hD, hS, (lv_sub hl [0, 1, 2, 3] rfl)⟩
  · rintro x H locs ls ⟨_, _, -, hF, -⟩
    exact lt_fu0 hF
  · rintro fu ih x H locs ls ⟨k, f0, rfl, hF, hT, hI, hP, hD, hS, hl⟩
    refine lv_iload_n hx hb dJ7_fill_53178_5 rfl (lv_at hl 1 rfl) ?_
    refine lv_iload_n hx hb dJ7_fill_53178_6 rfl (lv_at hl 0 rfl) ?_
    refine lv_icmp_ge (tgt := 20) hx hb dJ7_fill_53178_7 (by decide) (fun c_7 => ?_) (fun c_7 => ?_)
    · exact W.vret hx hb hret (fun t ht hW => ⟨⟨(f0), rfl, (Eq.trans (Eq.symm (Eq.trans (if_pos c_7) rfl)) hT), by rw [ht]; exact hP, hD⟩, hS.F ht⟩) hS.2.2 dJ7_fill_53178_20
    · refine lv_aload_n hx hb dJ7_fill_53178_10 rfl (lv_at hl 2 rfl) ?_
      refine lv_iload_n hx hb dJ7_fill_53178_11 rfl (lv_at hl 1 rfl) ?_
      refine lv_iload_n hx hb dJ7_fill_53178_12 rfl (lv_at hl 3 rfl) ?_
      refine va_iast hx hb hK hP hD hS 0 0 rfl rfl (i := k) (x := p1) (lt_fin hn hI (lt_nle c_7)) dJ7_fill_53178_13 (fun H locs hP hD hS => ?_)
      have hP : va_P D vwCl (lt_Ro yI b n (upd f0 k.toNatClampNeg p1)) H := hP
      have hD : va_D A (lt_Ro yI b n (upd f0 k.toNatClampNeg p1)) := hD
      refine lv_iinc (v := (k + 1)) (lv' := [(2, .int (k + 1)), (3, .int (Int32.ofNat n)), (0, .ref b), (1, .int p1)]) hx hb dJ7_fill_53178_14 hl (k := 1) rfl (rfl) (by decide) rfl (fun ls hl => ?_)
      refine lv_goto (tgt := 5) hx hb dJ7_fill_53178_17 (by decide) ?_
      exact ih ((k + 1), (upd f0 k.toNatClampNeg p1)) _ _ _ ⟨(k + 1), (upd f0 k.toNatClampNeg p1), rfl, lt_fuS hF (lt_nle c_7), (Eq.trans (Eq.symm (Eq.trans (if_neg c_7) rfl)) hT), (by have h9 := lt_add1 (lt_nle c_7); omega), hP, hD, hS, lv_sub hl [1, 0, 2, 3] rfl⟩

def X3_putAll (n : Nat) (f : Nat → Int32) (p0 : Int32) : (Nat → Int32) :=
  let x_5 := J7_fill_53178 n f p0
  (x_5)
theorem iw_X3_putAll_3 : ∀ w ∈ wsX30, w ∈ wsX3_putAll := by decide +kernel
set_option maxHeartbeats 4000000 in
set_option maxRecDepth 100000 in
theorem c_X3_putAll (l : Launch) (D : va_G) (yI yC yO : ClassId) (a : Nat) (b : Nat) (n : Nat) (f : Nat → Int32) (p0 : Int32) (sz : Nat) (hn : n < 2147483648) : Met l yX3_putAll wsX3_putAll ({ frames := 1, cells := 0, slots := 0, locals := 30 }) (va_Pc [.ref a, .int p0] (lt_M D yI yC yO (lt_N2 yI a b n f) sz)) (lt_Qv D (X3_putAll n f p0) (fun u => lt_N2 yI a b n u) (va_A (lt_N2 yI a b n f) sz)) 0 0 (va_A (lt_N2 yI a b n f) sz) := by
  refine Met.ofW (cc := cX3_putAll) (maxL := 2) (ret := none) (by decide) rfl ?_
  intro p e s m args below meth c s₁ B0 hml hv
  obtain ⟨rfl, hsz, hP, hK0, hD0⟩ := hv
  have hx := B0.exec
  have hb := B0.bytes
  have hret := B0.returns
  have hts := atoms_spec (ws := wsX3_putAll) B0.pre
  have hown : s.vm.findClass RX3 = some m.cls := findClass_of_methodNamed B0.named
  have hlocks := B0.notSynchronized
  have hK := hK0.1
  have hN := hK0.2
  subst hsz
  have hD := hD0.self (sz := s.heap.size)
  generalize hAe : va_A (lt_N2 yI a b n f) s.heap.size = A at hD ⊢
  have hA : ∀ q : Nat, s.heap.size ≤ q → A q := fun q h => by rw [← hAe]; exact Or.inr h
  have hS : va_S A s.heap s.heap [] := va_S.rf
  have hP : va_P D vwCl (lt_N2 yI a b n f) s.heap := hP
  have hD : va_D A (lt_N2 yI a b n f) := hD
  have hl := lv_entry ([.ref a, .int p0]) (n := 2) (Nat.le_of_ble_eq_true rfl)
  rw [lg_entry_eq]
  generalize (lg_sl ([.ref a, .int p0]) ++ List.replicate (2 - (lg_sl ([.ref a, .int p0])).length) Slot.unset).toArray = ls at hl ⊢
  have hl : lv_has ls 2 [(0, .ref a), (1, .int p0)] := hl
  refine lv_aload_n hx hb dX3_putAll_0 rfl (lv_at hl 0 rfl) ?_
  refine va_get (D := D) (ci := 3) (v := .ref b) (C := RX3) (T := TX3) (N := 1) hx hb hts iw_X3_putAll_3 hown hK hP 0 rfl rfl 0 (by decide) (hts (.fieldLink RX3 15 "LeafTurner$Numbers" "cells" "[I") (by decide +kernel)) (fun _ h9 => h9) rfl dX3_putAll_1 ?_
  refine lv_iload_n hx hb dX3_putAll_4 rfl (lv_at hl 1 rfl) ?_
  have hPc := hP.sub (ws' := lt_Ro yI b n f) [1] rfl
  have hDc := hD.sub (ws' := lt_Ro yI b n f) [1] (by decide) rfl
  refine lt_cWv (wc := lt_Ro yI b n f) (wr := [(a, .inr (3, [.ref b]))]) (va_runS (As := [.ref b, .int p0]) (rest := []) ⟨hx, hb, hml, hown, hts⟩ (c_J7_fill_53178 l D yI yC yO b n f p0 _ hn) (va_cwS 2 hts gX3_putAll_J7_fill_53178 rfl rfl rfl (by decide +kernel) ⟨Nat.le_of_ble_eq_true rfl, Nat.le_of_ble_eq_true rfl⟩) (lt_qS hK0 hPc hDc) rfl rfl hl.1 rfl (lv_room (Nat.le_of_ble_eq_true rfl)) dX3_putAll_5 ⟨Nat.zero_le _, Nat.zero_le _⟩) hP hD hS hA [1] [0] rfl rfl (by decide) (by decide) (fun x_5 e_x_5 H locs hP hD hS => ?_)
  have hP := hP.sub (ws' := lt_N2 yI a b n x_5) [0, 1] rfl
  have hD := hD.sub (ws' := lt_N2 yI a b n x_5) [0, 1] (by decide) rfl
  exact W.vret hx hb hret (fun t ht hW => ⟨⟨(x_5), rfl, (by subst e_x_5; exact (Eq.symm rfl)), by rw [ht]; exact hP, hD⟩, hS.F ht⟩) hS.2.2 dX3_putAll_8

def X3_removeAt (n : Nat) (f : Nat → Int32) (p0 : Int32) : (Nat → Int32) :=
  let r_2 := X3_has n f p0
  if r_2 = 0 then
    (f)
  else
    ((va_cpy f f (p0 + 1).toNatClampNeg p0.toNatClampNeg (((Int32.ofNat n) - 1) - p0).toNatClampNeg))
theorem iw_X3_removeAt_3 : ∀ w ∈ wsX30, w ∈ wsX3_removeAt := by decide +kernel
set_option maxHeartbeats 4000000 in
set_option maxRecDepth 100000 in
theorem c_X3_removeAt (l : Launch) (D : va_G) (yI yC yO : ClassId) (a : Nat) (b : Nat) (n : Nat) (f : Nat → Int32) (p0 : Int32) (sz : Nat) (hn : n < 2147483648) : Met l yX3_removeAt wsX3_removeAt ({ frames := 1, cells := 0, slots := 0, locals := 30 }) (va_Pc [.ref a, .int p0] (lt_M D yI yC yO (lt_N2 yI a b n f) sz)) (lt_Qv D (X3_removeAt n f p0) (fun u => lt_N2 yI a b n u) (va_A (lt_N2 yI a b n f) sz)) 0 0 (va_A (lt_N2 yI a b n f) sz) := by
  refine Met.ofW (cc := cX3_removeAt) (maxL := 2) (ret := none) (by decide) rfl ?_
  intro p e s m args below meth c s₁ B0 hml hv
  obtain ⟨rfl, hsz, hP, hK0, hD0⟩ := hv
  have hx := B0.exec
  have hb := B0.bytes
  have hret := B0.returns
  have hts := atoms_spec (ws := wsX3_removeAt) B0.pre
  have hown : s.vm.findClass RX3 = some m.cls := findClass_of_methodNamed B0.named
  have hlocks := B0.notSynchronized
  have hK := hK0.1
  have hN := hK0.2
  subst hsz
  have hD := hD0.self (sz := s.heap.size)
  generalize hAe : va_A (lt_N2 yI a b n f) s.heap.size = A at hD ⊢
  have hA : ∀ q : Nat, s.heap.size ≤ q → A q := fun q h => by rw [← hAe]; exact Or.inr h
  have hS : va_S A s.heap s.heap [] := va_S.rf
  have hP : va_P D vwCl (lt_N2 yI a b n f) s.heap := hP
  have hD : va_D A (lt_N2 yI a b n f) := hD
  have hl := lv_entry ([.ref a, .int p0]) (n := 2) (Nat.le_of_ble_eq_true rfl)
  rw [lg_entry_eq]
  generalize (lg_sl ([.ref a, .int p0]) ++ List.replicate (2 - (lg_sl ([.ref a, .int p0])).length) Slot.unset).toArray = ls at hl ⊢
  have hl : lv_has ls 2 [(0, .ref a), (1, .int p0)] := hl
  refine lv_aload_n hx hb dX3_removeAt_0 rfl (lv_at hl 0 rfl) ?_
  refine lv_iload_n hx hb dX3_removeAt_1 rfl (lv_at hl 1 rfl) ?_
  have hPc := hP.sub (ws' := lt_N2 yI a b n f) [0, 1] rfl
  refine lt_cR (va_runV (As := [.int p0]) (rest := []) ⟨hx, hb, hml, hown, hts⟩ (c_X3_has l D yI yC yO a b n f p0 ) (cwV 1 hts gX3_removeAt_X3_has rfl rfl rfl (by decide +kernel) ⟨Nat.le_of_ble_eq_true rfl, Nat.le_of_ble_eq_true rfl⟩) (lt_pV hK0 hPc (va_recv hK hPc (ci := 3) (q0 := 0) rfl rfl)) rfl rfl hl.1 rfl (lv_room (Nat.le_of_ble_eq_true rfl)) dX3_removeAt_2 ⟨Nat.zero_le _, Nat.zero_le _⟩) (fun r_2 e_r_2 => ?_)
  refine lv_if_eq (tgt := 32) hx hb dX3_removeAt_5 (by decide) (fun c_5 => ?_) (fun c_5 => ?_)
  · exact W.vret hx hb hret (fun t ht hW => ⟨⟨(f), rfl, (by subst e_r_2; exact (Eq.symm (Eq.trans (if_pos c_5) rfl))), by rw [ht]; exact hP, hD⟩, hS.F ht⟩) hS.2.2 dX3_removeAt_32
  · refine lv_aload_n hx hb dX3_removeAt_8 rfl (lv_at hl 0 rfl) ?_
    refine va_get (D := D) (ci := 3) (v := .ref b) (C := RX3) (T := TX3) (N := 1) hx hb hts iw_X3_removeAt_3 hown hK hP 0 rfl rfl 0 (by decide) (hts (.fieldLink RX3 15 "LeafTurner$Numbers" "cells" "[I") (by decide +kernel)) (fun _ h9 => h9) rfl dX3_removeAt_9 ?_
    refine lv_iload_n hx hb dX3_removeAt_12 rfl (lv_at hl 1 rfl) ?_
    refine lv_iconst (v := 1) hx hb dX3_removeAt_13 (by decide) ?_
    refine lv_iadd hx hb dX3_removeAt_14 ?_
    refine lv_aload_n hx hb dX3_removeAt_15 rfl (lv_at hl 0 rfl) ?_
    refine va_get (D := D) (ci := 3) (v := .ref b) (C := RX3) (T := TX3) (N := 1) hx hb hts iw_X3_removeAt_3 hown hK hP 0 rfl rfl 0 (by decide) (hts (.fieldLink RX3 15 "LeafTurner$Numbers" "cells" "[I") (by decide +kernel)) (fun _ h9 => h9) rfl dX3_removeAt_16 ?_
    refine lv_iload_n hx hb dX3_removeAt_19 rfl (lv_at hl 1 rfl) ?_
    refine lv_aload_n hx hb dX3_removeAt_20 rfl (lv_at hl 0 rfl) ?_
    refine va_get (D := D) (ci := 3) (v := .ref b) (C := RX3) (T := TX3) (N := 1) hx hb hts iw_X3_removeAt_3 hown hK hP 0 rfl rfl 0 (by decide) (hts (.fieldLink RX3 15 "LeafTurner$Numbers" "cells" "[I") (by decide +kernel)) (fun _ h9 => h9) rfl dX3_removeAt_21 ?_
    refine va_alen (v := (Int32.ofNat n)) hx hb hK hP 1 0 rfl rfl rfl dX3_removeAt_24 ?_
    refine lv_iconst (v := 1) hx hb dX3_removeAt_25 (by decide) ?_
    refine lv_isub hx hb dX3_removeAt_26 ?_
    refine lv_iload_n hx hb dX3_removeAt_27 rfl (lv_at hl 1 rfl) ?_
    refine lv_isub hx hb dX3_removeAt_28 ?_
    refine va_copyi hx hb (hml.trans hl.1.symm) hown (hts (.methodLink RX3 31 arraycopyName) (by decide +kernel)) (hts (.native arraycopyName) (by decide +kernel)) (hts (.static arraycopyName) (by decide +kernel)) (hts (.initialized "java/lang/System") (by decide +kernel)) hK hP hD hS 1 1 0 0 rfl rfl rfl rfl rfl (sp := (p0 + 1)) (dp := p0) (n := (((Int32.ofNat n) - 1) - p0)) ((lt_rm hn (lt_hasE hn e_r_2 c_5)).1) ((lt_rm hn (lt_hasE hn e_r_2 c_5)).2.1) ((lt_rm hn (lt_hasE hn e_r_2 c_5)).2.2.1) (by have h9 := lt_rm hn (lt_hasE hn e_r_2 c_5); rw [h9.2.2.2.1, h9.2.2.2.2.1]; omega) (by have h9 := lt_rm hn (lt_hasE hn e_r_2 c_5); rw [h9.2.2.2.2.1]; omega) (fun _ _ => rfl) (Nat.le_of_ble_eq_true rfl) (Nat.le_of_ble_eq_true rfl) dX3_removeAt_29 (fun H locs hP hD hS => ?_)
    have hP : va_P D vwCl (lt_N2 yI a b n (va_cpy f f (p0 + 1).toNatClampNeg p0.toNatClampNeg (((Int32.ofNat n) - 1) - p0).toNatClampNeg)) H := hP
    have hD : va_D A (lt_N2 yI a b n (va_cpy f f (p0 + 1).toNatClampNeg p0.toNatClampNeg (((Int32.ofNat n) - 1) - p0).toNatClampNeg)) := hD
    exact W.vret hx hb hret (fun t ht hW => ⟨⟨((va_cpy f f (p0 + 1).toNatClampNeg p0.toNatClampNeg (((Int32.ofNat n) - 1) - p0).toNatClampNeg)), rfl, (by subst e_r_2; exact (Eq.symm (Eq.trans (if_neg c_5) rfl))), by rw [ht]; exact hP, hD⟩, hS.F ht⟩) hS.2.2 dX3_removeAt_32

theorem iw_X3_copyFrom_3 : ∀ w ∈ wsX30, w ∈ wsX3_copyFrom := by decide +kernel
set_option maxHeartbeats 4000000 in
set_option maxRecDepth 100000 in
theorem c_X3_copyFrom (l : Launch) (D : va_G) (yI yC yO : ClassId) (a : Nat) (b : Nat) (n : Nat) (a' : Nat) (b' : Nat) (f : Nat → Int32) (f' : Nat → Int32) (sz : Nat) (hn : n < 2147483648) : Met l yX3_copyFrom wsX3_copyFrom ({ frames := 1, cells := 0, slots := 0, locals := 30 }) (va_Pc [.ref a, .ref a'] (lt_M D yI yC yO (lt_N2 yI a b n f ++ lt_N2 yI a' b' n f') sz)) (lt_Qv D (X3_copyFrom n f f') (fun u => lt_N2 yI a b n u ++ lt_N2 yI a' b' n f') (va_A (lt_N2 yI a b n f ++ lt_N2 yI a' b' n f') sz)) 0 0 (va_A (lt_N2 yI a b n f ++ lt_N2 yI a' b' n f') sz) := by
  refine Met.ofW (cc := cX3_copyFrom) (maxL := 2) (ret := none) (by decide) rfl ?_
  intro p e s m args below meth c s₁ B0 hml hv
  obtain ⟨rfl, hsz, hP, hK0, hD0⟩ := hv
  have hx := B0.exec
  have hb := B0.bytes
  have hret := B0.returns
  have hts := atoms_spec (ws := wsX3_copyFrom) B0.pre
  have hown : s.vm.findClass RX3 = some m.cls := findClass_of_methodNamed B0.named
  have hlocks := B0.notSynchronized
  have hK := hK0.1
  have hN := hK0.2
  subst hsz
  have hD := hD0.self (sz := s.heap.size)
  generalize hAe : va_A (lt_N2 yI a b n f ++ lt_N2 yI a' b' n f') s.heap.size = A at hD ⊢
  have hA : ∀ q : Nat, s.heap.size ≤ q → A q := fun q h => by rw [← hAe]; exact Or.inr h
  have hS : va_S A s.heap s.heap [] := va_S.rf
  have hP : va_P D vwCl (lt_N2 yI a b n f ++ lt_N2 yI a' b' n f') s.heap := hP
  have hD : va_D A (lt_N2 yI a b n f ++ lt_N2 yI a' b' n f') := hD
  have hl := lv_entry ([.ref a, .ref a']) (n := 2) (Nat.le_of_ble_eq_true rfl)
  rw [lg_entry_eq]
  generalize (lg_sl ([.ref a, .ref a']) ++ List.replicate (2 - (lg_sl ([.ref a, .ref a'])).length) Slot.unset).toArray = ls at hl ⊢
  have hl : lv_has ls 2 [(0, .ref a), (1, .ref a')] := hl
  refine lv_aload_n hx hb dX3_copyFrom_0 rfl (lv_at hl 1 rfl) ?_
  refine va_get (D := D) (ci := 3) (v := .ref b') (C := RX3) (T := TX3) (N := 1) hx hb hts iw_X3_copyFrom_3 hown hK hP 2 rfl rfl 0 (by decide) (hts (.fieldLink RX3 15 "LeafTurner$Numbers" "cells" "[I") (by decide +kernel)) (fun _ h9 => h9) rfl dX3_copyFrom_1 ?_
  refine lv_iconst (v := 0) hx hb dX3_copyFrom_4 (by decide) ?_
  refine lv_aload_n hx hb dX3_copyFrom_5 rfl (lv_at hl 0 rfl) ?_
  refine va_get (D := D) (ci := 3) (v := .ref b) (C := RX3) (T := TX3) (N := 1) hx hb hts iw_X3_copyFrom_3 hown hK hP 0 rfl rfl 0 (by decide) (hts (.fieldLink RX3 15 "LeafTurner$Numbers" "cells" "[I") (by decide +kernel)) (fun _ h9 => h9) rfl dX3_copyFrom_6 ?_
  refine lv_iconst (v := 0) hx hb dX3_copyFrom_9 (by decide) ?_
  refine lv_aload_n hx hb dX3_copyFrom_10 rfl (lv_at hl 1 rfl) ?_
  refine va_get (D := D) (ci := 3) (v := .ref b') (C := RX3) (T := TX3) (N := 1) hx hb hts iw_X3_copyFrom_3 hown hK hP 2 rfl rfl 0 (by decide) (hts (.fieldLink RX3 15 "LeafTurner$Numbers" "cells" "[I") (by decide +kernel)) (fun _ h9 => h9) rfl dX3_copyFrom_11 ?_
  refine va_alen (v := (Int32.ofNat n)) hx hb hK hP 3 0 rfl rfl rfl dX3_copyFrom_14 ?_
  refine lv_aload_n hx hb dX3_copyFrom_15 rfl (lv_at hl 0 rfl) ?_
  refine va_get (D := D) (ci := 3) (v := .ref b) (C := RX3) (T := TX3) (N := 1) hx hb hts iw_X3_copyFrom_3 hown hK hP 0 rfl rfl 0 (by decide) (hts (.fieldLink RX3 15 "LeafTurner$Numbers" "cells" "[I") (by decide +kernel)) (fun _ h9 => h9) rfl dX3_copyFrom_16 ?_
  refine va_alen (v := (Int32.ofNat n)) hx hb hK hP 1 0 rfl rfl rfl dX3_copyFrom_19 ?_
  refine va_mmin hx hb (hml.trans hl.1.symm) hown (hts (.methodLink RX3 37 Lib.Math.min.name) (by decide +kernel)) (hts (.static Lib.Math.min.name) (by decide +kernel)) (hts (.initialized "java/lang/Math") (by decide +kernel)) (hts (.code Lib.Math.min.name Lib.Math.min.code 2 (some .int)) (by decide +kernel)) (Nat.le_of_ble_eq_true rfl) (Nat.le_of_ble_eq_true rfl) (Nat.zero_le _) (Nat.zero_le _) dX3_copyFrom_20 ?_
  refine lt_top (y := (Int32.ofNat n)) lt_minn ?_
  refine va_copyi hx hb (hml.trans hl.1.symm) hown (hts (.methodLink RX3 31 arraycopyName) (by decide +kernel)) (hts (.native arraycopyName) (by decide +kernel)) (hts (.static arraycopyName) (by decide +kernel)) (hts (.initialized "java/lang/System") (by decide +kernel)) hK hP hD hS 3 1 0 0 rfl rfl rfl rfl rfl (sp := 0) (dp := 0) (n := (Int32.ofNat n)) (by decide) (by decide) (nI_pos hn) (lt_cp hn) (lt_cp hn) (fun _ _ => rfl) (Nat.le_of_ble_eq_true rfl) (Nat.le_of_ble_eq_true rfl) dX3_copyFrom_23 (fun H locs hP hD hS => ?_)
  have hP : va_P D vwCl (lt_N2 yI a b n (va_cpy f' f 0 0 (Int32.ofNat n).toNatClampNeg) ++ lt_N2 yI a' b' n f') H := hP
  have hD : va_D A (lt_N2 yI a b n (va_cpy f' f 0 0 (Int32.ofNat n).toNatClampNeg) ++ lt_N2 yI a' b' n f') := hD
  have hP : va_P D vwCl (lt_N2 yI a b n f' ++ lt_N2 yI a' b' n f') H := lt_Pset hP 1 rfl (lt_rowI (fun j hj => lt_cpJ hn hj))
  have hD : va_D A (lt_N2 yI a b n f' ++ lt_N2 yI a' b' n f') := lt_Dset hD 1 rfl
  have hP : va_P D vwCl (lt_N2 yI a b n f' ++ lt_N2 yI a' b' n f') H := hP
  have hD : va_D A (lt_N2 yI a b n f' ++ lt_N2 yI a' b' n f') := hD
  exact W.vret hx hb hret (fun t ht hW => ⟨⟨f', rfl, rfl, by rw [ht]; exact hP, hD⟩, hS.F ht⟩) hS.2.2 dX3_copyFrom_26
