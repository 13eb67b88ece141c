def X3_has (n : Nat) (f : Nat → Int32) (p0 : Int32) : Int32 :=
  if p0 < 0 then
    0
  else
    if (Int32.ofNat n) ≤ p0 then
      0
    else
      1
theorem iw_X3_has_3 : ∀ w ∈ wsX30, w ∈ wsX3_has := by decide +kernel
set_option maxHeartbeats 4000000 in
set_option maxRecDepth 100000 in
theorem c_X3_has (l : Launch) (D : va_G) (yI yC yO : ClassId) (a : Nat) (b : Nat) (n : Nat) (f : Nat → Int32) (p0 : Int32) : Met l yX3_has wsX3_has ({ frames := 0, cells := 0, slots := 0, locals := 0 }) (va_Pc [.ref a, .int p0] (lt_R D yI yC yO (lt_N2 yI a b n f))) (lt_Si (X3_has n f p0)) 0 0 (fun _ => False) := by
  refine Met.ofW (cc := cX3_has) (maxL := 2) (ret := (some .boolean)) (by decide) rfl ?_
  intro p e s m args below meth c s₁ B0 hml hv
  obtain ⟨rfl, hP, hK0⟩ := hv
  have hx := B0.exec
  have hb := B0.bytes
  have hret := B0.returns
  have hts := atoms_spec (ws := wsX3_has) B0.pre
  have hown : s.vm.findClass RX3 = some m.cls := findClass_of_methodNamed B0.named
  have hlocks := B0.notSynchronized
  have hK := hK0.1
  have hN := hK0.2
  have hP : va_P D vwCl (lt_N2 yI a b n f) s.heap := hP
  have hl := lv_entry ([.ref a, .int p0]) (n := 2) (Nat.le_of_ble_eq_true rfl)
  rw [lg_entry_eq]
  generalize (lg_sl ([.ref a, .int p0]) ++ List.replicate (2 - (lg_sl ([.ref a, .int p0])).length) Slot.unset).toArray = ls at hl ⊢
  have hl : lv_has ls 2 [(0, .ref a), (1, .int p0)] := hl
  refine lv_iload_n hx hb dX3_has_0 rfl (lv_at hl 1 rfl) ?_
  refine lv_if_lt (tgt := 17) hx hb dX3_has_1 (by decide) (fun c_1 => ?_) (fun c_1 => ?_)
  · refine lv_iconst (v := 0) hx hb dX3_has_17 (by decide) ?_
    exact W.zret (v := 0) hx hb hret lt_z0 (fun t ht hW => ⟨0, rfl, (Eq.symm (Eq.trans (if_pos c_1) rfl)), ht⟩) (fun _ h => absurd h List.not_mem_nil) dX3_has_18
  · refine lv_iload_n hx hb dX3_has_4 rfl (lv_at hl 1 rfl) ?_
    refine lv_aload_n hx hb dX3_has_5 rfl (lv_at hl 0 rfl) ?_
    refine va_get (D := D) (ci := 3) (v := .ref b) (C := RX3) (T := TX3) (N := 1) hx hb hts iw_X3_has_3 hown hK hP 0 rfl rfl 0 (by decide) (hts (.fieldLink RX3 15 "LeafTurner$Numbers" "cells" "[I") (by decide +kernel)) (fun _ h9 => h9) rfl dX3_has_6 ?_
    refine va_alen (v := (Int32.ofNat n)) hx hb hK hP 1 0 rfl rfl rfl dX3_has_9 ?_
    refine lv_icmp_ge (tgt := 17) hx hb dX3_has_10 (by decide) (fun c_10 => ?_) (fun c_10 => ?_)
    · refine lv_iconst (v := 0) hx hb dX3_has_17 (by decide) ?_
      exact W.zret (v := 0) hx hb hret lt_z0 (fun t ht hW => ⟨0, rfl, (Eq.symm (Eq.trans (if_neg c_1) (Eq.trans (if_pos c_10) rfl))), ht⟩) (fun _ h => absurd h List.not_mem_nil) dX3_has_18
    · refine lv_iconst (v := 1) hx hb dX3_has_13 (by decide) ?_
      refine lv_goto (tgt := 18) hx hb dX3_has_14 (by decide) ?_
      exact W.zret (v := 1) hx hb hret lt_z1 (fun t ht hW => ⟨1, rfl, (Eq.symm (Eq.trans (if_neg c_1) (Eq.trans (if_neg c_10) rfl))), ht⟩) (fun _ h => absurd h List.not_mem_nil) dX3_has_18

theorem lt_has {n : Nat} {f : Nat → Int32} {i : Int32} (hn : n < 2147483648) (h : ¬ X3_has n f i = 0) : vp_in i n := by
  unfold X3_has at h
  split at h
  · exact absurd rfl h
  · split at h
    · exact absurd rfl h
    · next h1 h2 =>
      have h3 := Int32.lt_iff_toInt_lt.mp (lt_nle h2)
      have h4 := Int32.le_iff_toInt_le.mp (lt_nlt h1)
      have h5 : (Int32.ofNat n).toInt = (n : Int) := nI_toInt hn
      rw [h5] at h3
      have h6 : (0 : Int32).toInt = 0 := by decide
      rw [h6] at h4
      exact vp_in_iff.mpr ⟨h4, h3⟩
theorem lt_has01 {n : Nat} {f : Nat → Int32} {i : Int32} : X3_has n f i = 0 ∨ X3_has n f i = 1 := by
  unfold X3_has
  split
  · exact Or.inl rfl
  · split
    · exact Or.inl rfl
    · exact Or.inr rfl

def X3_at (n : Nat) (f : Nat → Int32) (p0 : Int32) : Int32 :=
  let r_2 := X3_has n f p0
  if r_2 = 0 then
    (-5)
  else
    (f p0.toNatClampNeg)
theorem iw_X3_at_3 : ∀ w ∈ wsX30, w ∈ wsX3_at := by decide +kernel
set_option maxHeartbeats 4000000 in
set_option maxRecDepth 100000 in
theorem c_X3_at (l : Launch) (D : va_G) (yI yC yO : ClassId) (a : Nat) (b : Nat) (n : Nat) (f : Nat → Int32) (p0 : Int32) (hn : n < 2147483648) : Met l yX3_at wsX3_at ({ frames := 1, cells := 0, slots := 0, locals := 30 }) (va_Pc [.ref a, .int p0] (lt_R D yI yC yO (lt_N2 yI a b n f))) (lt_Si (X3_at n f p0)) 0 0 (fun _ => False) := by
  refine Met.ofW (cc := cX3_at) (maxL := 2) (ret := (some .int)) (by decide) rfl ?_
  intro p e s m args below meth c s₁ B0 hml hv
  obtain ⟨rfl, hP, hK0⟩ := hv
  have hx := B0.exec
  have hb := B0.bytes
  have hret := B0.returns
  have hts := atoms_spec (ws := wsX3_at) B0.pre
  have hown : s.vm.findClass RX3 = some m.cls := findClass_of_methodNamed B0.named
  have hlocks := B0.notSynchronized
  have hK := hK0.1
  have hN := hK0.2
  have hP : va_P D vwCl (lt_N2 yI a b n f) s.heap := hP
  have hl := lv_entry ([.ref a, .int p0]) (n := 2) (Nat.le_of_ble_eq_true rfl)
  rw [lg_entry_eq]
  generalize (lg_sl ([.ref a, .int p0]) ++ List.replicate (2 - (lg_sl ([.ref a, .int p0])).length) Slot.unset).toArray = ls at hl ⊢
  have hl : lv_has ls 2 [(0, .ref a), (1, .int p0)] := hl
  refine lv_aload_n hx hb dX3_at_0 rfl (lv_at hl 0 rfl) ?_
  refine lv_iload_n hx hb dX3_at_1 rfl (lv_at hl 1 rfl) ?_
  have hPc := hP.sub (ws' := lt_N2 yI a b n f) [0, 1] rfl
  refine lt_cR (va_runV (As := [.int p0]) (rest := []) ⟨hx, hb, hml, hown, hts⟩ (c_X3_has l D yI yC yO a b n f p0 ) (cwV 1 hts gX3_at_X3_has rfl rfl rfl (by decide +kernel) ⟨Nat.le_of_ble_eq_true rfl, Nat.le_of_ble_eq_true rfl⟩) (lt_pV hK0 hPc (va_recv hK hPc (ci := 3) (q0 := 0) rfl rfl)) rfl rfl hl.1 rfl (lv_room (Nat.le_of_ble_eq_true rfl)) dX3_at_2 ⟨Nat.zero_le _, Nat.zero_le _⟩) (fun r_2 e_r_2 => ?_)
  refine lv_if_eq (tgt := 17) hx hb dX3_at_5 (by decide) (fun c_5 => ?_) (fun c_5 => ?_)
  · refine lv_bipush (v := (-5)) hx hb dX3_at_17 (by decide) ?_
    exact W.iret (v := (-5)) hx hb hret (fun t ht hW => ⟨(-5), rfl, (by subst e_r_2; exact (Eq.symm (Eq.trans (if_pos c_5) rfl))), ht⟩) (fun _ h => absurd h List.not_mem_nil) dX3_at_19
  · refine lv_aload_n hx hb dX3_at_8 rfl (lv_at hl 0 rfl) ?_
    refine va_get (D := D) (ci := 3) (v := .ref b) (C := RX3) (T := TX3) (N := 1) hx hb hts iw_X3_at_3 hown hK hP 0 rfl rfl 0 (by decide) (hts (.fieldLink RX3 15 "LeafTurner$Numbers" "cells" "[I") (by decide +kernel)) (fun _ h9 => h9) rfl dX3_at_9 ?_
    refine lv_iload_n hx hb dX3_at_12 rfl (lv_at hl 1 rfl) ?_
    refine va_iald hx hb hK hP 1 0 rfl rfl (i := p0) (lt_has hn c_5) dX3_at_13 ?_
    refine lv_goto (tgt := 19) hx hb dX3_at_14 (by decide) ?_
    exact W.iret (v := (f p0.toNatClampNeg)) hx hb hret (fun t ht hW => ⟨(f p0.toNatClampNeg), rfl, (by subst e_r_2; exact (Eq.symm (Eq.trans (if_neg c_5) rfl))), ht⟩) (fun _ h => absurd h List.not_mem_nil) dX3_at_19

def X3_put (n : Nat) (f : Nat → Int32) (p0 : Int32) (p1 : Int32) : (Nat → Int32) :=
  let r_2 := X3_has n f p0
  if r_2 = 0 then
    (f)
  else
    ((upd f p0.toNatClampNeg p1))
theorem iw_X3_put_3 : ∀ w ∈ wsX30, w ∈ wsX3_put := by decide +kernel
set_option maxHeartbeats 4000000 in
set_option maxRecDepth 100000 in
theorem c_X3_put (l : Launch) (D : va_G) (yI yC yO : ClassId) (a : Nat) (b : Nat) (n : Nat) (f : Nat → Int32) (p0 : Int32) (p1 : Int32) (sz : Nat) (hn : n < 2147483648) : Met l yX3_put wsX3_put ({ frames := 1, cells := 0, slots := 0, locals := 30 }) (va_Pc [.ref a, .int p0, .int p1] (lt_M D yI yC yO (lt_N2 yI a b n f) sz)) (lt_Qv D (X3_put n f p0 p1) (fun u => lt_N2 yI a b n u) (va_A (lt_N2 yI a b n f) sz)) 0 0 (va_A (lt_N2 yI a b n f) sz) := by
  refine Met.ofW (cc := cX3_put) (maxL := 3) (ret := none) (by decide) rfl ?_
  intro p e s m args below meth c s₁ B0 hml hv
  obtain ⟨rfl, hsz, hP, hK0, hD0⟩ := hv
  have hx := B0.exec
  have hb := B0.bytes
  have hret := B0.returns
  have hts := atoms_spec (ws := wsX3_put) B0.pre
  have hown : s.vm.findClass RX3 = some m.cls := findClass_of_methodNamed B0.named
  have hlocks := B0.notSynchronized
  have hK := hK0.1
  have hN := hK0.2
  subst hsz
  have hD := hD0.self (sz := s.heap.size)
  generalize hAe : va_A (lt_N2 yI a b n f) s.heap.size = A at hD ⊢
  have hA : ∀ q : Nat, s.heap.size ≤ q → A q := fun q h => by rw [← hAe]; exact Or.inr h
  have hS : va_S A s.heap s.heap [] := va_S.rf
  have hP : va_P D vwCl (lt_N2 yI a b n f) s.heap := hP
  have hD : va_D A (lt_N2 yI a b n f) := hD
  have hl := lv_entry ([.ref a, .int p0, .int p1]) (n := 3) (Nat.le_of_ble_eq_true rfl)
  rw [lg_entry_eq]
  generalize (lg_sl ([.ref a, .int p0, .int p1]) ++ List.replicate (3 - (lg_sl ([.ref a, .int p0, .int p1])).length) Slot.unset).toArray = ls at hl ⊢
  have hl : lv_has ls 3 [(0, .ref a), (1, .int p0), (2, .int p1)] := hl
  refine lv_aload_n hx hb dX3_put_0 rfl (lv_at hl 0 rfl) ?_
  refine lv_iload_n hx hb dX3_put_1 rfl (lv_at hl 1 rfl) ?_
  have hPc := hP.sub (ws' := lt_N2 yI a b n f) [0, 1] rfl
  refine lt_cR (va_runV (As := [.int p0]) (rest := []) ⟨hx, hb, hml, hown, hts⟩ (c_X3_has l D yI yC yO a b n f p0 ) (cwV 1 hts gX3_put_X3_has rfl rfl rfl (by decide +kernel) ⟨Nat.le_of_ble_eq_true rfl, Nat.le_of_ble_eq_true rfl⟩) (lt_pV hK0 hPc (va_recv hK hPc (ci := 3) (q0 := 0) rfl rfl)) rfl rfl hl.1 rfl (lv_room (Nat.le_of_ble_eq_true rfl)) dX3_put_2 ⟨Nat.zero_le _, Nat.zero_le _⟩) (fun r_2 e_r_2 => ?_)
  refine lv_if_eq (tgt := 15) hx hb dX3_put_5 (by decide) (fun c_5 => ?_) (fun c_5 => ?_)
  · exact W.vret hx hb hret (fun t ht hW => ⟨⟨(f), rfl, (by subst e_r_2; exact (Eq.symm (Eq.trans (if_pos c_5) rfl))), by rw [ht]; exact hP, hD⟩, hS.F ht⟩) hS.2.2 dX3_put_15
  · refine lv_aload_n hx hb dX3_put_8 rfl (lv_at hl 0 rfl) ?_
    refine va_get (D := D) (ci := 3) (v := .ref b) (C := RX3) (T := TX3) (N := 1) hx hb hts iw_X3_put_3 hown hK hP 0 rfl rfl 0 (by decide) (hts (.fieldLink RX3 15 "LeafTurner$Numbers" "cells" "[I") (by decide +kernel)) (fun _ h9 => h9) rfl dX3_put_9 ?_
    refine lv_iload_n hx hb dX3_put_12 rfl (lv_at hl 1 rfl) ?_
    refine lv_iload_n hx hb dX3_put_13 rfl (lv_at hl 2 rfl) ?_
    refine va_iast hx hb hK hP hD hS 1 0 rfl rfl (i := p0) (x := p1) (lt_has hn c_5) dX3_put_14 (fun H locs hP hD hS => ?_)
    have hP : va_P D vwCl (lt_N2 yI a b n (upd f p0.toNatClampNeg p1)) H := hP
    have hD : va_D A (lt_N2 yI a b n (upd f p0.toNatClampNeg p1)) := hD
    exact W.vret hx hb hret (fun t ht hW => ⟨⟨((upd f p0.toNatClampNeg p1)), rfl, (by subst e_r_2; exact (Eq.symm (Eq.trans (if_neg c_5) rfl))), by rw [ht]; exact hP, hD⟩, hS.F ht⟩) hS.2.2 dX3_put_15
