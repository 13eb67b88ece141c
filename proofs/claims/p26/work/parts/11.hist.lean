def lt_rot {α : Type} (f : Nat → α) : Nat → α := fun k => if k = 3 then f 0 else f (k + 1)
def X2_recz (z : Int32) : Int32 := if z = 4 then 4 else z + 1
def X2_recB (z : Int32) (Bh : Nat → Nat → Nat) : Nat → Nat → Nat := if z = 4 then lt_rot Bh else Bh
def X2_recV (z : Int32) (Vh : Nat → lt_SV) (i : Nat → Int32) (a : Nat → Nat → Int32) : Nat → lt_SV := if z = 4 then va_up (lt_rot Vh) 3 (i, a) else va_up Vh z.toNatClampNeg (i, a)
def X2_record (z : Int32) (Bh : Nat → Nat → Nat) (Vh : Nat → lt_SV) (i : Nat → Int32) (a : Nat → Nat → Int32) : Int32 × (Nat → Nat → Nat) × (Nat → lt_SV) := (X2_recz z, X2_recB z Bh, X2_recV z Vh i a)
def X2_dropOldest (z : Int32) (Bh : Nat → Nat → Nat) (Vh : Nat → lt_SV) : Int32 × (Nat → Nat → Nat) × (Nat → lt_SV) := (3, lt_rot Bh, lt_rot Vh)
def X2_tlz (z : Int32) : Int32 := if z = 0 then 0 else z - 1
def X2_tls (z : Int32) (Vh : Nat → lt_SV) (i : Nat → Int32) (a : Nat → Nat → Int32) : lt_SV := if z = 0 then (i, a) else Vh (z - 1).toNatClampNeg
def X2_takeLatestInto (z : Int32) (Bh : Nat → Nat → Nat) (Vh : Nat → lt_SV) (i : Nat → Int32) (a : Nat → Nat → Int32) : Int32 × (Nat → Int32) × (Nat → Nat → Int32) := (X2_tlz z, (X2_tls z Vh i a).1, (X2_tls z Vh i a).2)
def lt_hz (z : Int32) : Prop := z = 0 ∨ z = 1 ∨ z = 2 ∨ z = 3 ∨ z = 4

theorem iw_X2_dropOldest_2 : ∀ w ∈ wsX20, w ∈ wsX2_dropOldest := by decide +kernel
set_option maxHeartbeats 4000000 in
set_option maxRecDepth 100000 in
theorem c_X2_dropOldest (l : Launch) (D : va_G) (yI yC yO : ClassId) (G : Nat → Nat) (Bh : Nat → Nat → Nat) (Vh : Nat → lt_SV) (sz : Nat) : Met l yX2_dropOldest wsX2_dropOldest ({ frames := 0, cells := 0, slots := 0, locals := 0 }) (va_Pc [.ref (G 0)] (lt_M D yI yC yO (lt_Hi yI yO G 4 Bh Vh) sz)) (lt_Qv D (X2_dropOldest 4 Bh Vh) (fun u => lt_Hi yI yO G u.1 u.2.1 u.2.2) (va_A (lt_Hi yI yO G 4 Bh Vh) sz)) 0 0 (va_A (lt_Hi yI yO G 4 Bh Vh) sz) := by
  refine Met.ofW (cc := cX2_dropOldest) (maxL := 3) (ret := none) (by decide) rfl ?_
  intro p e s m args below meth c s₁ B0 hml hv
  obtain ⟨rfl, hsz, hP, hK0, hD0⟩ := hv
  have hx := B0.exec
  have hb := B0.bytes
  have hret := B0.returns
  have hts := atoms_spec (ws := wsX2_dropOldest) B0.pre
  have hown : s.vm.findClass RX2 = some m.cls := findClass_of_methodNamed B0.named
  have hlocks := B0.notSynchronized
  have hK := hK0.1
  have hN := hK0.2
  subst hsz
  have hD := hD0.self (sz := s.heap.size)
  generalize hAe : va_A (lt_Hi yI yO G 4 Bh Vh) s.heap.size = A at hD ⊢
  have hA : ∀ q : Nat, s.heap.size ≤ q → A q := fun q h => by rw [← hAe]; exact Or.inr h
  have hS : va_S A s.heap s.heap [] := va_S.rf
  have hP : va_P D vwCl (lt_Hi yI yO G 4 Bh Vh) s.heap := hP
  have hD : va_D A (lt_Hi yI yO G 4 Bh Vh) := hD
  have hl := lv_entry ([.ref (G 0)]) (n := 3) (Nat.le_of_ble_eq_true rfl)
  rw [lg_entry_eq]
  generalize (lg_sl ([.ref (G 0)]) ++ List.replicate (3 - (lg_sl ([.ref (G 0)])).length) Slot.unset).toArray = ls at hl ⊢
  have hl : lv_has ls 3 [(0, .ref (G 0))] := hl
  refine lv_aload_n hx hb dX2_dropOldest_0 rfl (lv_at hl 0 rfl) ?_
  refine va_get (D := D) (ci := 2) (v := .ref (G 1)) (C := RX2) (T := TX2) (N := 2) hx hb hts iw_X2_dropOldest_2 hown hK hP 0 rfl rfl 0 (by decide) (hts (.fieldLink RX2 11 "LeafTurner$History" "states" "[LLeafTurner$State;") (by decide +kernel)) (fun _ h9 => h9) rfl dX2_dropOldest_1 ?_
  refine va_alen (v := 4) hx hb hK hP 1 2 rfl rfl rfl dX2_dropOldest_4 ?_
  refine lv_if_ne (tgt := 9) hx hb dX2_dropOldest_5 (by decide) (fun _ => ?_) (fun c => absurd c (by decide))
  refine lv_aload_n hx hb dX2_dropOldest_9 rfl (lv_at hl 0 rfl) ?_
  refine va_get (D := D) (ci := 2) (v := .ref (G 1)) (C := RX2) (T := TX2) (N := 2) hx hb hts iw_X2_dropOldest_2 hown hK hP 0 rfl rfl 0 (by decide) (hts (.fieldLink RX2 11 "LeafTurner$History" "states" "[LLeafTurner$State;") (by decide +kernel)) (fun _ h9 => h9) rfl dX2_dropOldest_10 ?_
  refine lv_iconst (v := 0) hx hb dX2_dropOldest_13 (by decide) ?_
  refine va_aldq hx hb hK hP 1 2 rfl rfl (i := 0) (vp_in_iff.mpr (by decide)) dX2_dropOldest_14 ?_
  refine W.eq (g2 := F0 m 15 ls [.ref ((Bh 0) 0)]) rfl ?_
  refine lv_astore_n (lv' := [(1, .ref ((Bh 0) 0)), (0, .ref (G 0))]) hx hb dX2_dropOldest_15 rfl hl (by decide) rfl (fun ls hl => ?_)
  refine lv_iconst (v := 1) hx hb dX2_dropOldest_16 (by decide) ?_
  refine lv_istore_n (lv' := [(2, .int 1), (1, .ref ((Bh 0) 0)), (0, .ref (G 0))]) hx hb dX2_dropOldest_17 rfl hl (by decide) rfl (fun ls hl => ?_)
  refine lv_iload_n hx hb dX2_dropOldest_18 rfl (lv_at hl 0 rfl) ?_
  refine lv_aload_n hx hb dX2_dropOldest_19 rfl (lv_at hl 2 rfl) ?_
  refine va_get (D := D) (ci := 2) (v := .ref (G 1)) (C := RX2) (T := TX2) (N := 2) hx hb hts iw_X2_dropOldest_2 hown hK hP 0 rfl rfl 0 (by decide) (hts (.fieldLink RX2 11 "LeafTurner$History" "states" "[LLeafTurner$State;") (by decide +kernel)) (fun _ h9 => h9) rfl dX2_dropOldest_20 ?_
  refine va_alen (v := 4) hx hb hK hP 1 2 rfl rfl rfl dX2_dropOldest_23 ?_
  refine lv_icmp_ge (tgt := 47) hx hb dX2_dropOldest_24 (by decide) (fun c => absurd c (by decide)) (fun _ => ?_)
  refine lv_aload_n hx hb dX2_dropOldest_27 rfl (lv_at hl 2 rfl) ?_
  refine va_get (D := D) (ci := 2) (v := .ref (G 1)) (C := RX2) (T := TX2) (N := 2) hx hb hts iw_X2_dropOldest_2 hown hK hP 0 rfl rfl 0 (by decide) (hts (.fieldLink RX2 11 "LeafTurner$History" "states" "[LLeafTurner$State;") (by decide +kernel)) (fun _ h9 => h9) rfl dX2_dropOldest_28 ?_
  refine lv_iload_n hx hb dX2_dropOldest_31 rfl (lv_at hl 0 rfl) ?_
  refine lv_iconst (v := 1) hx hb dX2_dropOldest_32 (by decide) ?_
  refine lv_isub hx hb dX2_dropOldest_33 ?_
  refine lt_top (y := 0) (by decide) ?_
  refine lv_aload_n hx hb dX2_dropOldest_34 rfl (lv_at hl 2 rfl) ?_
  refine va_get (D := D) (ci := 2) (v := .ref (G 1)) (C := RX2) (T := TX2) (N := 2) hx hb hts iw_X2_dropOldest_2 hown hK hP 0 rfl rfl 0 (by decide) (hts (.fieldLink RX2 11 "LeafTurner$History" "states" "[LLeafTurner$State;") (by decide +kernel)) (fun _ h9 => h9) rfl dX2_dropOldest_35 ?_
  refine lv_iload_n hx hb dX2_dropOldest_38 rfl (lv_at hl 0 rfl) ?_
  refine va_aldq hx hb hK hP 1 2 rfl rfl (i := 1) (vp_in_iff.mpr (by decide)) dX2_dropOldest_39 ?_
  refine W.eq (g2 := F0 m 40 ls [.ref ((Bh 1) 0), .int 0, .ref (G 1)]) rfl ?_
  refine va_astq hx hb hK hP hD hS 1 2 21 6 rfl rfl rfl rfl (i := 0) (vp_in_iff.mpr (by decide)) dX2_dropOldest_40 (fun H locs hP hD hS => ?_)
  have hP : va_P D vwCl ([(G 0, .inr (2, [.ref (G 1), .int 4])), (G 1, .inl (yO, 4, .inr (.inr (.inr (.inr (va_up (fun k => some (Bh k 0)) 0 (some ((Bh 1) 0))))))))] ++ ((lt_St yI (Bh 0) ((Vh 0).1) ((Vh 0).2)) ++ (lt_St yI (Bh 1) ((Vh 1).1) ((Vh 1).2)) ++ (lt_St yI (Bh 2) ((Vh 2).1) ((Vh 2).2)) ++ (lt_St yI (Bh 3) ((Vh 3).1) ((Vh 3).2)))) H := hP
  have hD : va_D A ([(G 0, .inr (2, [.ref (G 1), .int 4])), (G 1, .inl (yO, 4, .inr (.inr (.inr (.inr (va_up (fun k => some (Bh k 0)) 0 (some ((Bh 1) 0))))))))] ++ ((lt_St yI (Bh 0) ((Vh 0).1) ((Vh 0).2)) ++ (lt_St yI (Bh 1) ((Vh 1).1) ((Vh 1).2)) ++ (lt_St yI (Bh 2) ((Vh 2).1) ((Vh 2).2)) ++ (lt_St yI (Bh 3) ((Vh 3).1) ((Vh 3).2)))) := hD
  refine lv_iinc (v := 2) (lv' := [(2, .int 2), (1, .ref ((Bh 0) 0)), (0, .ref (G 0))]) hx hb dX2_dropOldest_41 hl (k := 0) rfl (by decide) (by decide) rfl (fun ls hl => ?_)
  refine lv_goto (tgt := 18) hx hb dX2_dropOldest_44 (by decide) ?_
  refine lv_iload_n hx hb dX2_dropOldest_18 rfl (lv_at hl 0 rfl) ?_
  refine lv_aload_n hx hb dX2_dropOldest_19 rfl (lv_at hl 2 rfl) ?_
  refine va_get (D := D) (ci := 2) (v := .ref (G 1)) (C := RX2) (T := TX2) (N := 2) hx hb hts iw_X2_dropOldest_2 hown hK hP 0 rfl rfl 0 (by decide) (hts (.fieldLink RX2 11 "LeafTurner$History" "states" "[LLeafTurner$State;") (by decide +kernel)) (fun _ h9 => h9) rfl dX2_dropOldest_20 ?_
  refine va_alen (v := 4) hx hb hK hP 1 2 rfl rfl rfl dX2_dropOldest_23 ?_
  refine lv_icmp_ge (tgt := 47) hx hb dX2_dropOldest_24 (by decide) (fun c => absurd c (by decide)) (fun _ => ?_)
  refine lv_aload_n hx hb dX2_dropOldest_27 rfl (lv_at hl 2 rfl) ?_
  refine va_get (D := D) (ci := 2) (v := .ref (G 1)) (C := RX2) (T := TX2) (N := 2) hx hb hts iw_X2_dropOldest_2 hown hK hP 0 rfl rfl 0 (by decide) (hts (.fieldLink RX2 11 "LeafTurner$History" "states" "[LLeafTurner$State;") (by decide +kernel)) (fun _ h9 => h9) rfl dX2_dropOldest_28 ?_
  refine lv_iload_n hx hb dX2_dropOldest_31 rfl (lv_at hl 0 rfl) ?_
  refine lv_iconst (v := 1) hx hb dX2_dropOldest_32 (by decide) ?_
  refine lv_isub hx hb dX2_dropOldest_33 ?_
  refine lt_top (y := 1) (by decide) ?_
  refine lv_aload_n hx hb dX2_dropOldest_34 rfl (lv_at hl 2 rfl) ?_
  refine va_get (D := D) (ci := 2) (v := .ref (G 1)) (C := RX2) (T := TX2) (N := 2) hx hb hts iw_X2_dropOldest_2 hown hK hP 0 rfl rfl 0 (by decide) (hts (.fieldLink RX2 11 "LeafTurner$History" "states" "[LLeafTurner$State;") (by decide +kernel)) (fun _ h9 => h9) rfl dX2_dropOldest_35 ?_
  refine lv_iload_n hx hb dX2_dropOldest_38 rfl (lv_at hl 0 rfl) ?_
  refine va_aldq hx hb hK hP 1 2 rfl rfl (i := 2) (vp_in_iff.mpr (by decide)) dX2_dropOldest_39 ?_
  refine W.eq (g2 := F0 m 40 ls [.ref ((Bh 2) 0), .int 1, .ref (G 1)]) rfl ?_
  refine va_astq hx hb hK hP hD hS 1 2 40 6 rfl rfl rfl rfl (i := 1) (vp_in_iff.mpr (by decide)) dX2_dropOldest_40 (fun H locs hP hD hS => ?_)
  have hP : va_P D vwCl ([(G 0, .inr (2, [.ref (G 1), .int 4])), (G 1, .inl (yO, 4, .inr (.inr (.inr (.inr (va_up (va_up (fun k => some (Bh k 0)) 0 (some ((Bh 1) 0))) 1 (some ((Bh 2) 0))))))))] ++ ((lt_St yI (Bh 0) ((Vh 0).1) ((Vh 0).2)) ++ (lt_St yI (Bh 1) ((Vh 1).1) ((Vh 1).2)) ++ (lt_St yI (Bh 2) ((Vh 2).1) ((Vh 2).2)) ++ (lt_St yI (Bh 3) ((Vh 3).1) ((Vh 3).2)))) H := hP
  have hD : va_D A ([(G 0, .inr (2, [.ref (G 1), .int 4])), (G 1, .inl (yO, 4, .inr (.inr (.inr (.inr (va_up (va_up (fun k => some (Bh k 0)) 0 (some ((Bh 1) 0))) 1 (some ((Bh 2) 0))))))))] ++ ((lt_St yI (Bh 0) ((Vh 0).1) ((Vh 0).2)) ++ (lt_St yI (Bh 1) ((Vh 1).1) ((Vh 1).2)) ++ (lt_St yI (Bh 2) ((Vh 2).1) ((Vh 2).2)) ++ (lt_St yI (Bh 3) ((Vh 3).1) ((Vh 3).2)))) := hD
  refine lv_iinc (v := 3) (lv' := [(2, .int 3), (1, .ref ((Bh 0) 0)), (0, .ref (G 0))]) hx hb dX2_dropOldest_41 hl (k := 0) rfl (by decide) (by decide) rfl (fun ls hl => ?_)
  refine lv_goto (tgt := 18) hx hb dX2_dropOldest_44 (by decide) ?_
  refine lv_iload_n hx hb dX2_dropOldest_18 rfl (lv_at hl 0 rfl) ?_
  refine lv_aload_n hx hb dX2_dropOldest_19 rfl (lv_at hl 2 rfl) ?_
  refine va_get (D := D) (ci := 2) (v := .ref (G 1)) (C := RX2) (T := TX2) (N := 2) hx hb hts iw_X2_dropOldest_2 hown hK hP 0 rfl rfl 0 (by decide) (hts (.fieldLink RX2 11 "LeafTurner$History" "states" "[LLeafTurner$State;") (by decide +kernel)) (fun _ h9 => h9) rfl dX2_dropOldest_20 ?_
  refine va_alen (v := 4) hx hb hK hP 1 2 rfl rfl rfl dX2_dropOldest_23 ?_
  refine lv_icmp_ge (tgt := 47) hx hb dX2_dropOldest_24 (by decide) (fun c => absurd c (by decide)) (fun _ => ?_)
  refine lv_aload_n hx hb dX2_dropOldest_27 rfl (lv_at hl 2 rfl) ?_
  refine va_get (D := D) (ci := 2) (v := .ref (G 1)) (C := RX2) (T := TX2) (N := 2) hx hb hts iw_X2_dropOldest_2 hown hK hP 0 rfl rfl 0 (by decide) (hts (.fieldLink RX2 11 "LeafTurner$History" "states" "[LLeafTurner$State;") (by decide +kernel)) (fun _ h9 => h9) rfl dX2_dropOldest_28 ?_
  refine lv_iload_n hx hb dX2_dropOldest_31 rfl (lv_at hl 0 rfl) ?_
  refine lv_iconst (v := 1) hx hb dX2_dropOldest_32 (by decide) ?_
  refine lv_isub hx hb dX2_dropOldest_33 ?_
  refine lt_top (y := 2) (by decide) ?_
  refine lv_aload_n hx hb dX2_dropOldest_34 rfl (lv_at hl 2 rfl) ?_
  refine va_get (D := D) (ci := 2) (v := .ref (G 1)) (C := RX2) (T := TX2) (N := 2) hx hb hts iw_X2_dropOldest_2 hown hK hP 0 rfl rfl 0 (by decide) (hts (.fieldLink RX2 11 "LeafTurner$History" "states" "[LLeafTurner$State;") (by decide +kernel)) (fun _ h9 => h9) rfl dX2_dropOldest_35 ?_
  refine lv_iload_n hx hb dX2_dropOldest_38 rfl (lv_at hl 0 rfl) ?_
  refine va_aldq hx hb hK hP 1 2 rfl rfl (i := 3) (vp_in_iff.mpr (by decide)) dX2_dropOldest_39 ?_
  refine W.eq (g2 := F0 m 40 ls [.ref ((Bh 3) 0), .int 2, .ref (G 1)]) rfl ?_
  refine va_astq hx hb hK hP hD hS 1 2 59 6 rfl rfl rfl rfl (i := 2) (vp_in_iff.mpr (by decide)) dX2_dropOldest_40 (fun H locs hP hD hS => ?_)
  have hP : va_P D vwCl ([(G 0, .inr (2, [.ref (G 1), .int 4])), (G 1, .inl (yO, 4, .inr (.inr (.inr (.inr (va_up (va_up (va_up (fun k => some (Bh k 0)) 0 (some ((Bh 1) 0))) 1 (some ((Bh 2) 0))) 2 (some ((Bh 3) 0))))))))] ++ ((lt_St yI (Bh 0) ((Vh 0).1) ((Vh 0).2)) ++ (lt_St yI (Bh 1) ((Vh 1).1) ((Vh 1).2)) ++ (lt_St yI (Bh 2) ((Vh 2).1) ((Vh 2).2)) ++ (lt_St yI (Bh 3) ((Vh 3).1) ((Vh 3).2)))) H := hP
  have hD : va_D A ([(G 0, .inr (2, [.ref (G 1), .int 4])), (G 1, .inl (yO, 4, .inr (.inr (.inr (.inr (va_up (va_up (va_up (fun k => some (Bh k 0)) 0 (some ((Bh 1) 0))) 1 (some ((Bh 2) 0))) 2 (some ((Bh 3) 0))))))))] ++ ((lt_St yI (Bh 0) ((Vh 0).1) ((Vh 0).2)) ++ (lt_St yI (Bh 1) ((Vh 1).1) ((Vh 1).2)) ++ (lt_St yI (Bh 2) ((Vh 2).1) ((Vh 2).2)) ++ (lt_St yI (Bh 3) ((Vh 3).1) ((Vh 3).2)))) := hD
  refine lv_iinc (v := 4) (lv' := [(2, .int 4), (1, .ref ((Bh 0) 0)), (0, .ref (G 0))]) hx hb dX2_dropOldest_41 hl (k := 0) rfl (by decide) (by decide) rfl (fun ls hl => ?_)
  refine lv_goto (tgt := 18) hx hb dX2_dropOldest_44 (by decide) ?_
  refine lv_iload_n hx hb dX2_dropOldest_18 rfl (lv_at hl 0 rfl) ?_
  refine lv_aload_n hx hb dX2_dropOldest_19 rfl (lv_at hl 2 rfl) ?_
  refine va_get (D := D) (ci := 2) (v := .ref (G 1)) (C := RX2) (T := TX2) (N := 2) hx hb hts iw_X2_dropOldest_2 hown hK hP 0 rfl rfl 0 (by decide) (hts (.fieldLink RX2 11 "LeafTurner$History" "states" "[LLeafTurner$State;") (by decide +kernel)) (fun _ h9 => h9) rfl dX2_dropOldest_20 ?_
  refine va_alen (v := 4) hx hb hK hP 1 2 rfl rfl rfl dX2_dropOldest_23 ?_
  refine lv_icmp_ge (tgt := 47) hx hb dX2_dropOldest_24 (by decide) (fun _ => ?_) (fun c => absurd c (by decide))
  refine lv_aload_n hx hb dX2_dropOldest_47 rfl (lv_at hl 2 rfl) ?_
  refine va_get (D := D) (ci := 2) (v := .ref (G 1)) (C := RX2) (T := TX2) (N := 2) hx hb hts iw_X2_dropOldest_2 hown hK hP 0 rfl rfl 0 (by decide) (hts (.fieldLink RX2 11 "LeafTurner$History" "states" "[LLeafTurner$State;") (by decide +kernel)) (fun _ h9 => h9) rfl dX2_dropOldest_48 ?_
  refine lv_aload_n hx hb dX2_dropOldest_51 rfl (lv_at hl 2 rfl) ?_
  refine va_get (D := D) (ci := 2) (v := .ref (G 1)) (C := RX2) (T := TX2) (N := 2) hx hb hts iw_X2_dropOldest_2 hown hK hP 0 rfl rfl 0 (by decide) (hts (.fieldLink RX2 11 "LeafTurner$History" "states" "[LLeafTurner$State;") (by decide +kernel)) (fun _ h9 => h9) rfl dX2_dropOldest_52 ?_
  refine va_alen (v := 4) hx hb hK hP 1 2 rfl rfl rfl dX2_dropOldest_55 ?_
  refine lv_iconst (v := 1) hx hb dX2_dropOldest_56 (by decide) ?_
  refine lv_isub hx hb dX2_dropOldest_57 ?_
  refine lt_top (y := 3) (by decide) ?_
  refine lv_aload_n hx hb dX2_dropOldest_58 rfl (lv_at hl 1 rfl) ?_
  refine va_astq hx hb hK hP hD hS 1 2 2 6 rfl rfl rfl rfl (i := 3) (vp_in_iff.mpr (by decide)) dX2_dropOldest_59 (fun H locs hP hD hS => ?_)
  have hP : va_P D vwCl ([(G 0, .inr (2, [.ref (G 1), .int 4])), (G 1, .inl (yO, 4, .inr (.inr (.inr (.inr (va_up (va_up (va_up (va_up (fun k => some (Bh k 0)) 0 (some ((Bh 1) 0))) 1 (some ((Bh 2) 0))) 2 (some ((Bh 3) 0))) 3 (some ((Bh 0) 0))))))))] ++ ((lt_St yI (Bh 0) ((Vh 0).1) ((Vh 0).2)) ++ (lt_St yI (Bh 1) ((Vh 1).1) ((Vh 1).2)) ++ (lt_St yI (Bh 2) ((Vh 2).1) ((Vh 2).2)) ++ (lt_St yI (Bh 3) ((Vh 3).1) ((Vh 3).2)))) H := hP
  have hD : va_D A ([(G 0, .inr (2, [.ref (G 1), .int 4])), (G 1, .inl (yO, 4, .inr (.inr (.inr (.inr (va_up (va_up (va_up (va_up (fun k => some (Bh k 0)) 0 (some ((Bh 1) 0))) 1 (some ((Bh 2) 0))) 2 (some ((Bh 3) 0))) 3 (some ((Bh 0) 0))))))))] ++ ((lt_St yI (Bh 0) ((Vh 0).1) ((Vh 0).2)) ++ (lt_St yI (Bh 1) ((Vh 1).1) ((Vh 1).2)) ++ (lt_St yI (Bh 2) ((Vh 2).1) ((Vh 2).2)) ++ (lt_St yI (Bh 3) ((Vh 3).1) ((Vh 3).2)))) := hD
  refine lv_aload_n hx hb dX2_dropOldest_60 rfl (lv_at hl 2 rfl) ?_
  refine lv_aload_n hx hb dX2_dropOldest_61 rfl (lv_at hl 2 rfl) ?_
  refine va_get (D := D) (ci := 2) (v := .ref (G 1)) (C := RX2) (T := TX2) (N := 2) hx hb hts iw_X2_dropOldest_2 hown hK hP 0 rfl rfl 0 (by decide) (hts (.fieldLink RX2 11 "LeafTurner$History" "states" "[LLeafTurner$State;") (by decide +kernel)) (fun _ h9 => h9) rfl dX2_dropOldest_62 ?_
  refine va_alen (v := 4) hx hb hK hP 1 2 rfl rfl rfl dX2_dropOldest_65 ?_
  refine lv_iconst (v := 1) hx hb dX2_dropOldest_66 (by decide) ?_
  refine lv_isub hx hb dX2_dropOldest_67 ?_
  refine lt_top (y := 3) (by decide) ?_
  refine va_put (D := D) (ci := 2) (v := .int 3) (ty := .int) (C := RX2) (T := TX2) (N := 2) hx hb hts iw_X2_dropOldest_2 tyX2 tyX2_ok nmX2 hown hK hP hD hS 0 rfl rfl 1 (by decide) (hts (.fieldLink RX2 18 "LeafTurner$History" "size" "I") (by decide +kernel)) (fun _ h9 => h9) rfl (by decide +kernel) rfl rfl (Nat.le_of_ble_eq_true rfl) dX2_dropOldest_68 (fun H locs hP hD hS => ?_)
  have hP : va_P D vwCl ([(G 0, .inr (2, [.ref (G 1), .int 3])), (G 1, .inl (yO, 4, .inr (.inr (.inr (.inr (va_up (va_up (va_up (va_up (fun k => some (Bh k 0)) 0 (some ((Bh 1) 0))) 1 (some ((Bh 2) 0))) 2 (some ((Bh 3) 0))) 3 (some ((Bh 0) 0))))))))] ++ ((lt_St yI (Bh 0) ((Vh 0).1) ((Vh 0).2)) ++ (lt_St yI (Bh 1) ((Vh 1).1) ((Vh 1).2)) ++ (lt_St yI (Bh 2) ((Vh 2).1) ((Vh 2).2)) ++ (lt_St yI (Bh 3) ((Vh 3).1) ((Vh 3).2)))) H := hP
  have hD : va_D A ([(G 0, .inr (2, [.ref (G 1), .int 3])), (G 1, .inl (yO, 4, .inr (.inr (.inr (.inr (va_up (va_up (va_up (va_up (fun k => some (Bh k 0)) 0 (some ((Bh 1) 0))) 1 (some ((Bh 2) 0))) 2 (some ((Bh 3) 0))) 3 (some ((Bh 0) 0))))))))] ++ ((lt_St yI (Bh 0) ((Vh 0).1) ((Vh 0).2)) ++ (lt_St yI (Bh 1) ((Vh 1).1) ((Vh 1).2)) ++ (lt_St yI (Bh 2) ((Vh 2).1) ((Vh 2).2)) ++ (lt_St yI (Bh 3) ((Vh 3).1) ((Vh 3).2)))) := hD
  have hP := lt_Pset hP 1 (e' := .inl (yO, 4, .inr (.inr (.inr (.inr (fun k => some (lt_rot Bh k 0))))))) rfl (lt_rowQ (fun j hj => co_4 (P := fun j => (va_up (va_up (va_up (va_up (fun k => some (Bh k 0)) 0 (some ((Bh 1) 0))) 1 (some ((Bh 2) 0))) 2 (some ((Bh 3) 0))) 3 (some ((Bh 0) 0))) j = (fun k => some (lt_rot Bh k 0)) j) rfl rfl rfl rfl hj))
  have hD := lt_Dset hD 1 (e' := .inl (yO, 4, .inr (.inr (.inr (.inr (fun k => some (lt_rot Bh k 0))))))) rfl
  have hP := hP.sub (ws' := lt_Hi yI yO G 3 (lt_rot Bh) (lt_rot Vh)) [0, 1, 21, 22, 23, 24, 25, 26, 27, 28, 29, 30, 31, 32, 33, 34, 35, 36, 37, 38, 39, 40, 41, 42, 43, 44, 45, 46, 47, 48, 49, 50, 51, 52, 53, 54, 55, 56, 57, 58, 59, 60, 61, 62, 63, 64, 65, 66, 67, 68, 69, 70, 71, 72, 73, 74, 75, 76, 77, 2, 3, 4, 5, 6, 7, 8, 9, 10, 11, 12, 13, 14, 15, 16, 17, 18, 19, 20] rfl
  have hD := hD.sub (ws' := lt_Hi yI yO G 3 (lt_rot Bh) (lt_rot Vh)) [0, 1, 21, 22, 23, 24, 25, 26, 27, 28, 29, 30, 31, 32, 33, 34, 35, 36, 37, 38, 39, 40, 41, 42, 43, 44, 45, 46, 47, 48, 49, 50, 51, 52, 53, 54, 55, 56, 57, 58, 59, 60, 61, 62, 63, 64, 65, 66, 67, 68, 69, 70, 71, 72, 73, 74, 75, 76, 77, 2, 3, 4, 5, 6, 7, 8, 9, 10, 11, 12, 13, 14, 15, 16, 17, 18, 19, 20] (by decide) rfl
  have hP : va_P D vwCl (lt_Hi yI yO G 3 (lt_rot Bh) (lt_rot Vh)) H := hP
  have hD : va_D A (lt_Hi yI yO G 3 (lt_rot Bh) (lt_rot Vh)) := hD
  exact W.vret hx hb hret (fun t ht hW => ⟨⟨(3, lt_rot Bh, lt_rot Vh), rfl, rfl, by rw [ht]; exact hP, hD⟩, hS.F ht⟩) hS.2.2 dX2_dropOldest_71

theorem iw_X2_record_2 : ∀ w ∈ wsX20, w ∈ wsX2_record := by decide +kernel
set_option maxHeartbeats 4000000 in
set_option maxRecDepth 100000 in
theorem c_X2_record_0 (l : Launch) (D : va_G) (yI yC yO : ClassId) (G : Nat → Nat) (B' : Nat → Nat) (Bh : Nat → Nat → Nat) (Vh : Nat → lt_SV) (i' : Nat → Int32) (a' : Nat → Nat → Int32) (sz : Nat) : Met l yX2_record wsX2_record ({ frames := 4, cells := 0, slots := 0, locals := 120 }) (va_Pc [.ref (G 0), .ref (B' 0)] (lt_M D yI yC yO (lt_Hi yI yO G 0 Bh Vh ++ lt_St yI B' i' a') sz)) (lt_Qv D (X2_record 0 Bh Vh i' a') (fun u => lt_Hi yI yO G u.1 u.2.1 u.2.2 ++ lt_St yI B' i' a') (va_A (lt_Hi yI yO G 0 Bh Vh ++ lt_St yI B' i' a') sz)) 0 0 (va_A (lt_Hi yI yO G 0 Bh Vh ++ lt_St yI B' i' a') sz) := by
  refine Met.ofW (cc := cX2_record) (maxL := 2) (ret := none) (by decide) rfl ?_
  intro p e s m args below meth c s₁ B0 hml hv
  obtain ⟨rfl, hsz, hP, hK0, hD0⟩ := hv
  have hx := B0.exec
  have hb := B0.bytes
  have hret := B0.returns
  have hts := atoms_spec (ws := wsX2_record) B0.pre
  have hown : s.vm.findClass RX2 = some m.cls := findClass_of_methodNamed B0.named
  have hlocks := B0.notSynchronized
  have hK := hK0.1
  have hN := hK0.2
  subst hsz
  have hD := hD0.self (sz := s.heap.size)
  generalize hAe : va_A (lt_Hi yI yO G 0 Bh Vh ++ lt_St yI B' i' a') s.heap.size = A at hD ⊢
  have hA : ∀ q : Nat, s.heap.size ≤ q → A q := fun q h => by rw [← hAe]; exact Or.inr h
  have hS : va_S A s.heap s.heap [] := va_S.rf
  have hP : va_P D vwCl (lt_Hi yI yO G 0 Bh Vh ++ lt_St yI B' i' a') s.heap := hP
  have hD : va_D A (lt_Hi yI yO G 0 Bh Vh ++ lt_St yI B' i' a') := hD
  have hl := lv_entry ([.ref (G 0), .ref (B' 0)]) (n := 2) (Nat.le_of_ble_eq_true rfl)
  rw [lg_entry_eq]
  generalize (lg_sl ([.ref (G 0), .ref (B' 0)]) ++ List.replicate (2 - (lg_sl ([.ref (G 0), .ref (B' 0)])).length) Slot.unset).toArray = ls at hl ⊢
  have hl : lv_has ls 2 [(0, .ref (G 0)), (1, .ref (B' 0))] := hl
  refine lv_aload_n hx hb dX2_record_0 rfl (lv_at hl 0 rfl) ?_
  refine va_get (D := D) (ci := 2) (v := .int 0) (C := RX2) (T := TX2) (N := 2) hx hb hts iw_X2_record_2 hown hK hP 0 rfl rfl 1 (by decide) (hts (.fieldLink RX2 18 "LeafTurner$History" "size" "I") (by decide +kernel)) (fun _ h9 => h9) rfl dX2_record_1 ?_
  refine lv_aload_n hx hb dX2_record_4 rfl (lv_at hl 0 rfl) ?_
  refine va_get (D := D) (ci := 2) (v := .ref (G 1)) (C := RX2) (T := TX2) (N := 2) hx hb hts iw_X2_record_2 hown hK hP 0 rfl rfl 0 (by decide) (hts (.fieldLink RX2 11 "LeafTurner$History" "states" "[LLeafTurner$State;") (by decide +kernel)) (fun _ h9 => h9) rfl dX2_record_5 ?_
  refine va_alen (v := 4) hx hb hK hP 1 2 rfl rfl rfl dX2_record_8 ?_
  refine lv_icmp_lt (tgt := 16) hx hb dX2_record_9 (by decide) (fun _ => ?_) (fun c => absurd c (by decide))
  refine lv_aload_n hx hb dX2_record_16 rfl (lv_at hl 0 rfl) ?_
  refine va_get (D := D) (ci := 2) (v := .int 0) (C := RX2) (T := TX2) (N := 2) hx hb hts iw_X2_record_2 hown hK hP 0 rfl rfl 1 (by decide) (hts (.fieldLink RX2 18 "LeafTurner$History" "size" "I") (by decide +kernel)) (fun _ h9 => h9) rfl dX2_record_17 ?_
  refine lv_if_lt (tgt := 47) hx hb dX2_record_20 (by decide) (fun c => absurd c (by decide)) (fun _ => ?_)
  refine lv_aload_n hx hb dX2_record_23 rfl (lv_at hl 0 rfl) ?_
  refine va_get (D := D) (ci := 2) (v := .int 0) (C := RX2) (T := TX2) (N := 2) hx hb hts iw_X2_record_2 hown hK hP 0 rfl rfl 1 (by decide) (hts (.fieldLink RX2 18 "LeafTurner$History" "size" "I") (by decide +kernel)) (fun _ h9 => h9) rfl dX2_record_24 ?_
  refine lv_aload_n hx hb dX2_record_27 rfl (lv_at hl 0 rfl) ?_
  refine va_get (D := D) (ci := 2) (v := .ref (G 1)) (C := RX2) (T := TX2) (N := 2) hx hb hts iw_X2_record_2 hown hK hP 0 rfl rfl 0 (by decide) (hts (.fieldLink RX2 11 "LeafTurner$History" "states" "[LLeafTurner$State;") (by decide +kernel)) (fun _ h9 => h9) rfl dX2_record_28 ?_
  refine va_alen (v := 4) hx hb hK hP 1 2 rfl rfl rfl dX2_record_31 ?_
  refine lv_icmp_ge (tgt := 47) hx hb dX2_record_32 (by decide) (fun c => absurd c (by decide)) (fun _ => ?_)
  refine lv_aload_n hx hb dX2_record_35 rfl (lv_at hl 0 rfl) ?_
  refine va_get (D := D) (ci := 2) (v := .ref (G 1)) (C := RX2) (T := TX2) (N := 2) hx hb hts iw_X2_record_2 hown hK hP 0 rfl rfl 0 (by decide) (hts (.fieldLink RX2 11 "LeafTurner$History" "states" "[LLeafTurner$State;") (by decide +kernel)) (fun _ h9 => h9) rfl dX2_record_36 ?_
  refine lv_aload_n hx hb dX2_record_39 rfl (lv_at hl 0 rfl) ?_
  refine va_get (D := D) (ci := 2) (v := .int 0) (C := RX2) (T := TX2) (N := 2) hx hb hts iw_X2_record_2 hown hK hP 0 rfl rfl 1 (by decide) (hts (.fieldLink RX2 18 "LeafTurner$History" "size" "I") (by decide +kernel)) (fun _ h9 => h9) rfl dX2_record_40 ?_
  refine va_aldq hx hb hK hP 1 2 rfl rfl (i := 0) (vp_in_iff.mpr (by decide)) dX2_record_43 ?_
  refine W.eq (g2 := F0 m 44 ls [.ref ((Bh 0) 0)]) rfl ?_
  refine lv_ifnonnull (tgt := 48) hx hb dX2_record_44 (by decide) ?_
  refine lv_aload_n hx hb dX2_record_48 rfl (lv_at hl 0 rfl) ?_
  refine va_get (D := D) (ci := 2) (v := .ref (G 1)) (C := RX2) (T := TX2) (N := 2) hx hb hts iw_X2_record_2 hown hK hP 0 rfl rfl 0 (by decide) (hts (.fieldLink RX2 11 "LeafTurner$History" "states" "[LLeafTurner$State;") (by decide +kernel)) (fun _ h9 => h9) rfl dX2_record_49 ?_
  refine lv_aload_n hx hb dX2_record_52 rfl (lv_at hl 0 rfl) ?_
  refine va_get (D := D) (ci := 2) (v := .int 0) (C := RX2) (T := TX2) (N := 2) hx hb hts iw_X2_record_2 hown hK hP 0 rfl rfl 1 (by decide) (hts (.fieldLink RX2 18 "LeafTurner$History" "size" "I") (by decide +kernel)) (fun _ h9 => h9) rfl dX2_record_53 ?_
  refine va_aldq hx hb hK hP 1 2 rfl rfl (i := 0) (vp_in_iff.mpr (by decide)) dX2_record_56 ?_
  refine W.eq (g2 := F0 m 57 ls [.ref ((Bh 0) 0)]) rfl ?_
  refine lv_aload_n hx hb dX2_record_57 rfl (lv_at hl 1 rfl) ?_
  have hPc := hP.sub (ws' := lt_St yI (Bh 0) ((Vh 0).1) ((Vh 0).2) ++ lt_St yI B' i' a') [2, 3, 4, 5, 6, 7, 8, 9, 10, 11, 12, 13, 14, 15, 16, 17, 18, 19, 20, 78, 79, 80, 81, 82, 83, 84, 85, 86, 87, 88, 89, 90, 91, 92, 93, 94, 95, 96] rfl
  have hDc := hD.sub (ws' := lt_St yI (Bh 0) ((Vh 0).1) ((Vh 0).2) ++ lt_St yI B' i' a') [2, 3, 4, 5, 6, 7, 8, 9, 10, 11, 12, 13, 14, 15, 16, 17, 18, 19, 20, 78, 79, 80, 81, 82, 83, 84, 85, 86, 87, 88, 89, 90, 91, 92, 93, 94, 95, 96] (by decide) rfl
  refine lt_cWv0 (wc := lt_St yI (Bh 0) ((Vh 0).1) ((Vh 0).2) ++ lt_St yI B' i' a') (wr := [(G 0, .inr (2, [.ref (G 1), .int 0])), (G 1, .inl (yO, 4, .inr (.inr (.inr (.inr (fun k => some (Bh k 0))))))), ((Bh 1) 0, .inr (6, [.ref ((Bh 1) 1), .ref ((Bh 1) 8), .ref ((Bh 1) 17), .int (((Vh 1).1) 1), .int (((Vh 1).1) 8), .int (((Vh 1).1) 4), .int (((Vh 1).1) 5), .int (((Vh 1).1) 6), .int (((Vh 1).1) 7), .int (((Vh 1).1) 3)])), ((Bh 1) 1, .inr (0, [.ref ((Bh 1) 2), .ref ((Bh 1) 4), .ref ((Bh 1) 6), .int (((Vh 1).1) 0)])), ((Bh 1) 2, .inr (3, [.ref ((Bh 1) 3)])), ((Bh 1) 3, .inl (yI, 30, .inl (((Vh 1).2) 0))), ((Bh 1) 4, .inr (3, [.ref ((Bh 1) 5)])), ((Bh 1) 5, .inl (yI, 30, .inl (((Vh 1).2) 1))), ((Bh 1) 6, .inr (3, [.ref ((Bh 1) 7)])), ((Bh 1) 7, .inl (yI, 60, .inl (((Vh 1).2) 2))), ((Bh 1) 8, .inr (5, [.ref ((Bh 1) 9), .ref ((Bh 1) 11), .ref ((Bh 1) 13), .ref ((Bh 1) 15), .int (((Vh 1).1) 2)])), ((Bh 1) 9, .inr (3, [.ref ((Bh 1) 10)])), ((Bh 1) 10, .inl (yI, 80, .inl (((Vh 1).2) 3))), ((Bh 1) 11, .inr (3, [.ref ((Bh 1) 12)])), ((Bh 1) 12, .inl (yI, 80, .inl (((Vh 1).2) 4))), ((Bh 1) 13, .inr (3, [.ref ((Bh 1) 14)])), ((Bh 1) 14, .inl (yI, 80, .inl (((Vh 1).2) 5))), ((Bh 1) 15, .inr (3, [.ref ((Bh 1) 16)])), ((Bh 1) 16, .inl (yI, 80, .inl (((Vh 1).2) 6))), ((Bh 1) 17, .inr (3, [.ref ((Bh 1) 18)])), ((Bh 1) 18, .inl (yI, 3, .inl (((Vh 1).2) 7))), ((Bh 2) 0, .inr (6, [.ref ((Bh 2) 1), .ref ((Bh 2) 8), .ref ((Bh 2) 17), .int (((Vh 2).1) 1), .int (((Vh 2).1) 8), .int (((Vh 2).1) 4), .int (((Vh 2).1) 5), .int (((Vh 2).1) 6), .int (((Vh 2).1) 7), .int (((Vh 2).1) 3)])), ((Bh 2) 1, .inr (0, [.ref ((Bh 2) 2), .ref ((Bh 2) 4), .ref ((Bh 2) 6), .int (((Vh 2).1) 0)])), ((Bh 2) 2, .inr (3, [.ref ((Bh 2) 3)])), ((Bh 2) 3, .inl (yI, 30, .inl (((Vh 2).2) 0))), ((Bh 2) 4, .inr (3, [.ref ((Bh 2) 5)])), ((Bh 2) 5, .inl (yI, 30, .inl (((Vh 2).2) 1))), ((Bh 2) 6, .inr (3, [.ref ((Bh 2) 7)])), ((Bh 2) 7, .inl (yI, 60, .inl (((Vh 2).2) 2))), ((Bh 2) 8, .inr (5, [.ref ((Bh 2) 9), .ref ((Bh 2) 11), .ref ((Bh 2) 13), .ref ((Bh 2) 15), .int (((Vh 2).1) 2)])), ((Bh 2) 9, .inr (3, [.ref ((Bh 2) 10)])), ((Bh 2) 10, .inl (yI, 80, .inl (((Vh 2).2) 3))), ((Bh 2) 11, .inr (3, [.ref ((Bh 2) 12)])), ((Bh 2) 12, .inl (yI, 80, .inl (((Vh 2).2) 4))), ((Bh 2) 13, .inr (3, [.ref ((Bh 2) 14)])), ((Bh 2) 14, .inl (yI, 80, .inl (((Vh 2).2) 5))), ((Bh 2) 15, .inr (3, [.ref ((Bh 2) 16)])), ((Bh 2) 16, .inl (yI, 80, .inl (((Vh 2).2) 6))), ((Bh 2) 17, .inr (3, [.ref ((Bh 2) 18)])), ((Bh 2) 18, .inl (yI, 3, .inl (((Vh 2).2) 7))), ((Bh 3) 0, .inr (6, [.ref ((Bh 3) 1), .ref ((Bh 3) 8), .ref ((Bh 3) 17), .int (((Vh 3).1) 1), .int (((Vh 3).1) 8), .int (((Vh 3).1) 4), .int (((Vh 3).1) 5), .int (((Vh 3).1) 6), .int (((Vh 3).1) 7), .int (((Vh 3).1) 3)])), ((Bh 3) 1, .inr (0, [.ref ((Bh 3) 2), .ref ((Bh 3) 4), .ref ((Bh 3) 6), .int (((Vh 3).1) 0)])), ((Bh 3) 2, .inr (3, [.ref ((Bh 3) 3)])), ((Bh 3) 3, .inl (yI, 30, .inl (((Vh 3).2) 0))), ((Bh 3) 4, .inr (3, [.ref ((Bh 3) 5)])), ((Bh 3) 5, .inl (yI, 30, .inl (((Vh 3).2) 1))), ((Bh 3) 6, .inr (3, [.ref ((Bh 3) 7)])), ((Bh 3) 7, .inl (yI, 60, .inl (((Vh 3).2) 2))), ((Bh 3) 8, .inr (5, [.ref ((Bh 3) 9), .ref ((Bh 3) 11), .ref ((Bh 3) 13), .ref ((Bh 3) 15), .int (((Vh 3).1) 2)])), ((Bh 3) 9, .inr (3, [.ref ((Bh 3) 10)])), ((Bh 3) 10, .inl (yI, 80, .inl (((Vh 3).2) 3))), ((Bh 3) 11, .inr (3, [.ref ((Bh 3) 12)])), ((Bh 3) 12, .inl (yI, 80, .inl (((Vh 3).2) 4))), ((Bh 3) 13, .inr (3, [.ref ((Bh 3) 14)])), ((Bh 3) 14, .inl (yI, 80, .inl (((Vh 3).2) 5))), ((Bh 3) 15, .inr (3, [.ref ((Bh 3) 16)])), ((Bh 3) 16, .inl (yI, 80, .inl (((Vh 3).2) 6))), ((Bh 3) 17, .inr (3, [.ref ((Bh 3) 18)])), ((Bh 3) 18, .inl (yI, 3, .inl (((Vh 3).2) 7)))]) (va_runV (As := [.ref (B' 0)]) (rest := []) ⟨hx, hb, hml, hown, hts⟩ (c_X6_copyFrom l D yI yC yO (Bh 0) B' ((Vh 0).1) ((Vh 0).2) i' a' _ ) (cwV 1 hts gX2_record_X6_copyFrom rfl rfl rfl (by decide +kernel) ⟨Nat.le_of_ble_eq_true rfl, Nat.le_of_ble_eq_true rfl⟩) (lt_qV hK0 hPc hDc (va_recv hK hPc (ci := 6) (q0 := 0) rfl rfl)) rfl rfl hl.1 rfl (lv_room (Nat.le_of_ble_eq_true rfl)) dX2_record_58 ⟨Nat.zero_le _, Nat.zero_le _⟩) hP hD hS hA [2, 3, 4, 5, 6, 7, 8, 9, 10, 11, 12, 13, 14, 15, 16, 17, 18, 19, 20, 78, 79, 80, 81, 82, 83, 84, 85, 86, 87, 88, 89, 90, 91, 92, 93, 94, 95, 96] [0, 1, 21, 22, 23, 24, 25, 26, 27, 28, 29, 30, 31, 32, 33, 34, 35, 36, 37, 38, 39, 40, 41, 42, 43, 44, 45, 46, 47, 48, 49, 50, 51, 52, 53, 54, 55, 56, 57, 58, 59, 60, 61, 62, 63, 64, 65, 66, 67, 68, 69, 70, 71, 72, 73, 74, 75, 76, 77] rfl rfl (by decide) (by decide) (fun H locs hP hD hS => ?_)
  have hP := hP.sub (ws' := lt_Hi yI yO G 0 Bh (va_up Vh 0 (i', a')) ++ lt_St yI B' i' a') [0, 1, 59, 60, 61, 62, 63, 64, 65, 66, 67, 68, 69, 70, 71, 72, 73, 74, 75, 76, 77, 2, 3, 4, 5, 6, 7, 8, 9, 10, 11, 12, 13, 14, 15, 16, 17, 18, 19, 20, 21, 22, 23, 24, 25, 26, 27, 28, 29, 30, 31, 32, 33, 34, 35, 36, 37, 38, 39, 40, 41, 42, 43, 44, 45, 46, 47, 48, 49, 50, 51, 52, 53, 54, 55, 56, 57, 58, 78, 79, 80, 81, 82, 83, 84, 85, 86, 87, 88, 89, 90, 91, 92, 93, 94, 95, 96] rfl
  have hD := hD.sub (ws' := lt_Hi yI yO G 0 Bh (va_up Vh 0 (i', a')) ++ lt_St yI B' i' a') [0, 1, 59, 60, 61, 62, 63, 64, 65, 66, 67, 68, 69, 70, 71, 72, 73, 74, 75, 76, 77, 2, 3, 4, 5, 6, 7, 8, 9, 10, 11, 12, 13, 14, 15, 16, 17, 18, 19, 20, 21, 22, 23, 24, 25, 26, 27, 28, 29, 30, 31, 32, 33, 34, 35, 36, 37, 38, 39, 40, 41, 42, 43, 44, 45, 46, 47, 48, 49, 50, 51, 52, 53, 54, 55, 56, 57, 58, 78, 79, 80, 81, 82, 83, 84, 85, 86, 87, 88, 89, 90, 91, 92, 93, 94, 95, 96] (by decide) rfl
  refine lv_aload_n hx hb dX2_record_61 rfl (lv_at hl 0 rfl) ?_
  refine lv_dup hx hb dX2_record_62 rfl ?_
  refine va_get (D := D) (ci := 2) (v := .int 0) (C := RX2) (T := TX2) (N := 2) hx hb hts iw_X2_record_2 hown hK hP 0 rfl rfl 1 (by decide) (hts (.fieldLink RX2 18 "LeafTurner$History" "size" "I") (by decide +kernel)) (fun _ h9 => h9) rfl dX2_record_63 ?_
  refine lv_iconst (v := 1) hx hb dX2_record_66 (by decide) ?_
  refine lv_iadd hx hb dX2_record_67 ?_
  refine lt_top (y := 1) (by decide) ?_
  refine va_put (D := D) (ci := 2) (v := .int 1) (ty := .int) (C := RX2) (T := TX2) (N := 2) hx hb hts iw_X2_record_2 tyX2 tyX2_ok nmX2 hown hK hP hD hS 0 rfl rfl 1 (by decide) (hts (.fieldLink RX2 18 "LeafTurner$History" "size" "I") (by decide +kernel)) (fun _ h9 => h9) rfl (by decide +kernel) rfl rfl (Nat.le_of_ble_eq_true rfl) dX2_record_68 (fun H locs hP hD hS => ?_)
  have hP : va_P D vwCl (lt_Hi yI yO G 1 Bh (va_up Vh 0 (i', a')) ++ lt_St yI B' i' a') H := hP
  have hD : va_D A (lt_Hi yI yO G 1 Bh (va_up Vh 0 (i', a')) ++ lt_St yI B' i' a') := hD
  have hP : va_P D vwCl (lt_Hi yI yO G (X2_recz 0) (X2_recB 0 Bh) (X2_recV 0 Vh i' a') ++ lt_St yI B' i' a') H := hP
  have hD : va_D A (lt_Hi yI yO G (X2_recz 0) (X2_recB 0 Bh) (X2_recV 0 Vh i' a') ++ lt_St yI B' i' a') := hD
  exact W.vret hx hb hret (fun t ht hW => ⟨⟨(X2_recz 0, X2_recB 0 Bh, X2_recV 0 Vh i' a'), rfl, rfl, by rw [ht]; exact hP, hD⟩, hS.F ht⟩) hS.2.2 dX2_record_71

set_option maxHeartbeats 4000000 in
set_option maxRecDepth 100000 in
theorem c_X2_record_1 (l : Launch) (D : va_G) (yI yC yO : ClassId) (G : Nat → Nat) (B' : Nat → Nat) (Bh : Nat → Nat → Nat) (Vh : Nat → lt_SV) (i' : Nat → Int32) (a' : Nat → Nat → Int32) (sz : Nat) : Met l yX2_record wsX2_record ({ frames := 4, cells := 0, slots := 0, locals := 120 }) (va_Pc [.ref (G 0), .ref (B' 0)] (lt_M D yI yC yO (lt_Hi yI yO G 1 Bh Vh ++ lt_St yI B' i' a') sz)) (lt_Qv D (X2_record 1 Bh Vh i' a') (fun u => lt_Hi yI yO G u.1 u.2.1 u.2.2 ++ lt_St yI B' i' a') (va_A (lt_Hi yI yO G 1 Bh Vh ++ lt_St yI B' i' a') sz)) 0 0 (va_A (lt_Hi yI yO G 1 Bh Vh ++ lt_St yI B' i' a') sz) := by
  refine Met.ofW (cc := cX2_record) (maxL := 2) (ret := none) (by decide) rfl ?_
  intro p e s m args below meth c s₁ B0 hml hv
  obtain ⟨rfl, hsz, hP, hK0, hD0⟩ := hv
  have hx := B0.exec
  have hb := B0.bytes
  have hret := B0.returns
  have hts := atoms_spec (ws := wsX2_record) B0.pre
  have hown : s.vm.findClass RX2 = some m.cls := findClass_of_methodNamed B0.named
  have hlocks := B0.notSynchronized
  have hK := hK0.1
  have hN := hK0.2
  subst hsz
  have hD := hD0.self (sz := s.heap.size)
  generalize hAe : va_A (lt_Hi yI yO G 1 Bh Vh ++ lt_St yI B' i' a') s.heap.size = A at hD ⊢
  have hA : ∀ q : Nat, s.heap.size ≤ q → A q := fun q h => by rw [← hAe]; exact Or.inr h
  have hS : va_S A s.heap s.heap [] := va_S.rf
  have hP : va_P D vwCl (lt_Hi yI yO G 1 Bh Vh ++ lt_St yI B' i' a') s.heap := hP
  have hD : va_D A (lt_Hi yI yO G 1 Bh Vh ++ lt_St yI B' i' a') := hD
  have hl := lv_entry ([.ref (G 0), .ref (B' 0)]) (n := 2) (Nat.le_of_ble_eq_true rfl)
  rw [lg_entry_eq]
  generalize (lg_sl ([.ref (G 0), .ref (B' 0)]) ++ List.replicate (2 - (lg_sl ([.ref (G 0), .ref (B' 0)])).length) Slot.unset).toArray = ls at hl ⊢
  have hl : lv_has ls 2 [(0, .ref (G 0)), (1, .ref (B' 0))] := hl
  refine lv_aload_n hx hb dX2_record_0 rfl (lv_at hl 0 rfl) ?_
  refine va_get (D := D) (ci := 2) (v := .int 1) (C := RX2) (T := TX2) (N := 2) hx hb hts iw_X2_record_2 hown hK hP 0 rfl rfl 1 (by decide) (hts (.fieldLink RX2 18 "LeafTurner$History" "size" "I") (by decide +kernel)) (fun _ h9 => h9) rfl dX2_record_1 ?_
  refine lv_aload_n hx hb dX2_record_4 rfl (lv_at hl 0 rfl) ?_
  refine va_get (D := D) (ci := 2) (v := .ref (G 1)) (C := RX2) (T := TX2) (N := 2) hx hb hts iw_X2_record_2 hown hK hP 0 rfl rfl 0 (by decide) (hts (.fieldLink RX2 11 "LeafTurner$History" "states" "[LLeafTurner$State;") (by decide +kernel)) (fun _ h9 => h9) rfl dX2_record_5 ?_
  refine va_alen (v := 4) hx hb hK hP 1 2 rfl rfl rfl dX2_record_8 ?_
  refine lv_icmp_lt (tgt := 16) hx hb dX2_record_9 (by decide) (fun _ => ?_) (fun c => absurd c (by decide))
  refine lv_aload_n hx hb dX2_record_16 rfl (lv_at hl 0 rfl) ?_
  refine va_get (D := D) (ci := 2) (v := .int 1) (C := RX2) (T := TX2) (N := 2) hx hb hts iw_X2_record_2 hown hK hP 0 rfl rfl 1 (by decide) (hts (.fieldLink RX2 18 "LeafTurner$History" "size" "I") (by decide +kernel)) (fun _ h9 => h9) rfl dX2_record_17 ?_
  refine lv_if_lt (tgt := 47) hx hb dX2_record_20 (by decide) (fun c => absurd c (by decide)) (fun _ => ?_)
  refine lv_aload_n hx hb dX2_record_23 rfl (lv_at hl 0 rfl) ?_
  refine va_get (D := D) (ci := 2) (v := .int 1) (C := RX2) (T := TX2) (N := 2) hx hb hts iw_X2_record_2 hown hK hP 0 rfl rfl 1 (by decide) (hts (.fieldLink RX2 18 "LeafTurner$History" "size" "I") (by decide +kernel)) (fun _ h9 => h9) rfl dX2_record_24 ?_
  refine lv_aload_n hx hb dX2_record_27 rfl (lv_at hl 0 rfl) ?_
  refine va_get (D := D) (ci := 2) (v := .ref (G 1)) (C := RX2) (T := TX2) (N := 2) hx hb hts iw_X2_record_2 hown hK hP 0 rfl rfl 0 (by decide) (hts (.fieldLink RX2 11 "LeafTurner$History" "states" "[LLeafTurner$State;") (by decide +kernel)) (fun _ h9 => h9) rfl dX2_record_28 ?_
  refine va_alen (v := 4) hx hb hK hP 1 2 rfl rfl rfl dX2_record_31 ?_
  refine lv_icmp_ge (tgt := 47) hx hb dX2_record_32 (by decide) (fun c => absurd c (by decide)) (fun _ => ?_)
  refine lv_aload_n hx hb dX2_record_35 rfl (lv_at hl 0 rfl) ?_
  refine va_get (D := D) (ci := 2) (v := .ref (G 1)) (C := RX2) (T := TX2) (N := 2) hx hb hts iw_X2_record_2 hown hK hP 0 rfl rfl 0 (by decide) (hts (.fieldLink RX2 11 "LeafTurner$History" "states" "[LLeafTurner$State;") (by decide +kernel)) (fun _ h9 => h9) rfl dX2_record_36 ?_
  refine lv_aload_n hx hb dX2_record_39 rfl (lv_at hl 0 rfl) ?_
  refine va_get (D := D) (ci := 2) (v := .int 1) (C := RX2) (T := TX2) (N := 2) hx hb hts iw_X2_record_2 hown hK hP 0 rfl rfl 1 (by decide) (hts (.fieldLink RX2 18 "LeafTurner$History" "size" "I") (by decide +kernel)) (fun _ h9 => h9) rfl dX2_record_40 ?_
  refine va_aldq hx hb hK hP 1 2 rfl rfl (i := 1) (vp_in_iff.mpr (by decide)) dX2_record_43 ?_
  refine W.eq (g2 := F0 m 44 ls [.ref ((Bh 1) 0)]) rfl ?_
  refine lv_ifnonnull (tgt := 48) hx hb dX2_record_44 (by decide) ?_
  refine lv_aload_n hx hb dX2_record_48 rfl (lv_at hl 0 rfl) ?_
  refine va_get (D := D) (ci := 2) (v := .ref (G 1)) (C := RX2) (T := TX2) (N := 2) hx hb hts iw_X2_record_2 hown hK hP 0 rfl rfl 0 (by decide) (hts (.fieldLink RX2 11 "LeafTurner$History" "states" "[LLeafTurner$State;") (by decide +kernel)) (fun _ h9 => h9) rfl dX2_record_49 ?_
  refine lv_aload_n hx hb dX2_record_52 rfl (lv_at hl 0 rfl) ?_
  refine va_get (D := D) (ci := 2) (v := .int 1) (C := RX2) (T := TX2) (N := 2) hx hb hts iw_X2_record_2 hown hK hP 0 rfl rfl 1 (by decide) (hts (.fieldLink RX2 18 "LeafTurner$History" "size" "I") (by decide +kernel)) (fun _ h9 => h9) rfl dX2_record_53 ?_
  refine va_aldq hx hb hK hP 1 2 rfl rfl (i := 1) (vp_in_iff.mpr (by decide)) dX2_record_56 ?_
  refine W.eq (g2 := F0 m 57 ls [.ref ((Bh 1) 0)]) rfl ?_
  refine lv_aload_n hx hb dX2_record_57 rfl (lv_at hl 1 rfl) ?_
  have hPc := hP.sub (ws' := lt_St yI (Bh 1) ((Vh 1).1) ((Vh 1).2) ++ lt_St yI B' i' a') [21, 22, 23, 24, 25, 26, 27, 28, 29, 30, 31, 32, 33, 34, 35, 36, 37, 38, 39, 78, 79, 80, 81, 82, 83, 84, 85, 86, 87, 88, 89, 90, 91, 92, 93, 94, 95, 96] rfl
  have hDc := hD.sub (ws' := lt_St yI (Bh 1) ((Vh 1).1) ((Vh 1).2) ++ lt_St yI B' i' a') [21, 22, 23, 24, 25, 26, 27, 28, 29, 30, 31, 32, 33, 34, 35, 36, 37, 38, 39, 78, 79, 80, 81, 82, 83, 84, 85, 86, 87, 88, 89, 90, 91, 92, 93, 94, 95, 96] (by decide) rfl
  refine lt_cWv0 (wc := lt_St yI (Bh 1) ((Vh 1).1) ((Vh 1).2) ++ lt_St yI B' i' a') (wr := [(G 0, .inr (2, [.ref (G 1), .int 1])), (G 1, .inl (yO, 4, .inr (.inr (.inr (.inr (fun k => some (Bh k 0))))))), ((Bh 0) 0, .inr (6, [.ref ((Bh 0) 1), .ref ((Bh 0) 8), .ref ((Bh 0) 17), .int (((Vh 0).1) 1), .int (((Vh 0).1) 8), .int (((Vh 0).1) 4), .int (((Vh 0).1) 5), .int (((Vh 0).1) 6), .int (((Vh 0).1) 7), .int (((Vh 0).1) 3)])), ((Bh 0) 1, .inr (0, [.ref ((Bh 0) 2), .ref ((Bh 0) 4), .ref ((Bh 0) 6), .int (((Vh 0).1) 0)])), ((Bh 0) 2, .inr (3, [.ref ((Bh 0) 3)])), ((Bh 0) 3, .inl (yI, 30, .inl (((Vh 0).2) 0))), ((Bh 0) 4, .inr (3, [.ref ((Bh 0) 5)])), ((Bh 0) 5, .inl (yI, 30, .inl (((Vh 0).2) 1))), ((Bh 0) 6, .inr (3, [.ref ((Bh 0) 7)])), ((Bh 0) 7, .inl (yI, 60, .inl (((Vh 0).2) 2))), ((Bh 0) 8, .inr (5, [.ref ((Bh 0) 9), .ref ((Bh 0) 11), .ref ((Bh 0) 13), .ref ((Bh 0) 15), .int (((Vh 0).1) 2)])), ((Bh 0) 9, .inr (3, [.ref ((Bh 0) 10)])), ((Bh 0) 10, .inl (yI, 80, .inl (((Vh 0).2) 3))), ((Bh 0) 11, .inr (3, [.ref ((Bh 0) 12)])), ((Bh 0) 12, .inl (yI, 80, .inl (((Vh 0).2) 4))), ((Bh 0) 13, .inr (3, [.ref ((Bh 0) 14)])), ((Bh 0) 14, .inl (yI, 80, .inl (((Vh 0).2) 5))), ((Bh 0) 15, .inr (3, [.ref ((Bh 0) 16)])), ((Bh 0) 16, .inl (yI, 80, .inl (((Vh 0).2) 6))), ((Bh 0) 17, .inr (3, [.ref ((Bh 0) 18)])), ((Bh 0) 18, .inl (yI, 3, .inl (((Vh 0).2) 7))), ((Bh 2) 0, .inr (6, [.ref ((Bh 2) 1), .ref ((Bh 2) 8), .ref ((Bh 2) 17), .int (((Vh 2).1) 1), .int (((Vh 2).1) 8), .int (((Vh 2).1) 4), .int (((Vh 2).1) 5), .int (((Vh 2).1) 6), .int (((Vh 2).1) 7), .int (((Vh 2).1) 3)])), ((Bh 2) 1, .inr (0, [.ref ((Bh 2) 2), .ref ((Bh 2) 4), .ref ((Bh 2) 6), .int (((Vh 2).1) 0)])), ((Bh 2) 2, .inr (3, [.ref ((Bh 2) 3)])), ((Bh 2) 3, .inl (yI, 30, .inl (((Vh 2).2) 0))), ((Bh 2) 4, .inr (3, [.ref ((Bh 2) 5)])), ((Bh 2) 5, .inl (yI, 30, .inl (((Vh 2).2) 1))), ((Bh 2) 6, .inr (3, [.ref ((Bh 2) 7)])), ((Bh 2) 7, .inl (yI, 60, .inl (((Vh 2).2) 2))), ((Bh 2) 8, .inr (5, [.ref ((Bh 2) 9), .ref ((Bh 2) 11), .ref ((Bh 2) 13), .ref ((Bh 2) 15), .int (((Vh 2).1) 2)])), ((Bh 2) 9, .inr (3, [.ref ((Bh 2) 10)])), ((Bh 2) 10, .inl (yI, 80, .inl (((Vh 2).2) 3))), ((Bh 2) 11, .inr (3, [.ref ((Bh 2) 12)])), ((Bh 2) 12, .inl (yI, 80, .inl (((Vh 2).2) 4))), ((Bh 2) 13, .inr (3, [.ref ((Bh 2) 14)])), ((Bh 2) 14, .inl (yI, 80, .inl (((Vh 2).2) 5))), ((Bh 2) 15, .inr (3, [.ref ((Bh 2) 16)])), ((Bh 2) 16, .inl (yI, 80, .inl (((Vh 2).2) 6))), ((Bh 2) 17, .inr (3, [.ref ((Bh 2) 18)])), ((Bh 2) 18, .inl (yI, 3, .inl (((Vh 2).2) 7))), ((Bh 3) 0, .inr (6, [.ref ((Bh 3) 1), .ref ((Bh 3) 8), .ref ((Bh 3) 17), .int (((Vh 3).1) 1), .int (((Vh 3).1) 8), .int (((Vh 3).1) 4), .int (((Vh 3).1) 5), .int (((Vh 3).1) 6), .int (((Vh 3).1) 7), .int (((Vh 3).1) 3)])), ((Bh 3) 1, .inr (0, [.ref ((Bh 3) 2), .ref ((Bh 3) 4), .ref ((Bh 3) 6), .int (((Vh 3).1) 0)])), ((Bh 3) 2, .inr (3, [.ref ((Bh 3) 3)])), ((Bh 3) 3, .inl (yI, 30, .inl (((Vh 3).2) 0))), ((Bh 3) 4, .inr (3, [.ref ((Bh 3) 5)])), ((Bh 3) 5, .inl (yI, 30, .inl (((Vh 3).2) 1))), ((Bh 3) 6, .inr (3, [.ref ((Bh 3) 7)])), ((Bh 3) 7, .inl (yI, 60, .inl (((Vh 3).2) 2))), ((Bh 3) 8, .inr (5, [.ref ((Bh 3) 9), .ref ((Bh 3) 11), .ref ((Bh 3) 13), .ref ((Bh 3) 15), .int (((Vh 3).1) 2)])), ((Bh 3) 9, .inr (3, [.ref ((Bh 3) 10)])), ((Bh 3) 10, .inl (yI, 80, .inl (((Vh 3).2) 3))), ((Bh 3) 11, .inr (3, [.ref ((Bh 3) 12)])), ((Bh 3) 12, .inl (yI, 80, .inl (((Vh 3).2) 4))), ((Bh 3) 13, .inr (3, [.ref ((Bh 3) 14)])), ((Bh 3) 14, .inl (yI, 80, .inl (((Vh 3).2) 5))), ((Bh 3) 15, .inr (3, [.ref ((Bh 3) 16)])), ((Bh 3) 16, .inl (yI, 80, .inl (((Vh 3).2) 6))), ((Bh 3) 17, .inr (3, [.ref ((Bh 3) 18)])), ((Bh 3) 18, .inl (yI, 3, .inl (((Vh 3).2) 7)))]) (va_runV (As := [.ref (B' 0)]) (rest := []) ⟨hx, hb, hml, hown, hts⟩ (c_X6_copyFrom l D yI yC yO (Bh 1) B' ((Vh 1).1) ((Vh 1).2) i' a' _ ) (cwV 1 hts gX2_record_X6_copyFrom rfl rfl rfl (by decide +kernel) ⟨Nat.le_of_ble_eq_true rfl, Nat.le_of_ble_eq_true rfl⟩) (lt_qV hK0 hPc hDc (va_recv hK hPc (ci := 6) (q0 := 0) rfl rfl)) rfl rfl hl.1 rfl (lv_room (Nat.le_of_ble_eq_true rfl)) dX2_record_58 ⟨Nat.zero_le _, Nat.zero_le _⟩) hP hD hS hA [21, 22, 23, 24, 25, 26, 27, 28, 29, 30, 31, 32, 33, 34, 35, 36, 37, 38, 39, 78, 79, 80, 81, 82, 83, 84, 85, 86, 87, 88, 89, 90, 91, 92, 93, 94, 95, 96] [0, 1, 2, 3, 4, 5, 6, 7, 8, 9, 10, 11, 12, 13, 14, 15, 16, 17, 18, 19, 20, 40, 41, 42, 43, 44, 45, 46, 47, 48, 49, 50, 51, 52, 53, 54, 55, 56, 57, 58, 59, 60, 61, 62, 63, 64, 65, 66, 67, 68, 69, 70, 71, 72, 73, 74, 75, 76, 77] rfl rfl (by decide) (by decide) (fun H locs hP hD hS => ?_)
  have hP := hP.sub (ws' := lt_Hi yI yO G 1 Bh (va_up Vh 1 (i', a')) ++ lt_St yI B' i' a') [0, 1, 2, 3, 4, 5, 6, 7, 8, 9, 10, 11, 12, 13, 14, 15, 16, 17, 18, 19, 20, 59, 60, 61, 62, 63, 64, 65, 66, 67, 68, 69, 70, 71, 72, 73, 74, 75, 76, 77, 21, 22, 23, 24, 25, 26, 27, 28, 29, 30, 31, 32, 33, 34, 35, 36, 37, 38, 39, 40, 41, 42, 43, 44, 45, 46, 47, 48, 49, 50, 51, 52, 53, 54, 55, 56, 57, 58, 78, 79, 80, 81, 82, 83, 84, 85, 86, 87, 88, 89, 90, 91, 92, 93, 94, 95, 96] rfl
  have hD := hD.sub (ws' := lt_Hi yI yO G 1 Bh (va_up Vh 1 (i', a')) ++ lt_St yI B' i' a') [0, 1, 2, 3, 4, 5, 6, 7, 8, 9, 10, 11, 12, 13, 14, 15, 16, 17, 18, 19, 20, 59, 60, 61, 62, 63, 64, 65, 66, 67, 68, 69, 70, 71, 72, 73, 74, 75, 76, 77, 21, 22, 23, 24, 25, 26, 27, 28, 29, 30, 31, 32, 33, 34, 35, 36, 37, 38, 39, 40, 41, 42, 43, 44, 45, 46, 47, 48, 49, 50, 51, 52, 53, 54, 55, 56, 57, 58, 78, 79, 80, 81, 82, 83, 84, 85, 86, 87, 88, 89, 90, 91, 92, 93, 94, 95, 96] (by decide) rfl
  refine lv_aload_n hx hb dX2_record_61 rfl (lv_at hl 0 rfl) ?_
  refine lv_dup hx hb dX2_record_62 rfl ?_
  refine va_get (D := D) (ci := 2) (v := .int 1) (C := RX2) (T := TX2) (N := 2) hx hb hts iw_X2_record_2 hown hK hP 0 rfl rfl 1 (by decide) (hts (.fieldLink RX2 18 "LeafTurner$History" "size" "I") (by decide +kernel)) (fun _ h9 => h9) rfl dX2_record_63 ?_
  refine lv_iconst (v := 1) hx hb dX2_record_66 (by decide) ?_
  refine lv_iadd hx hb dX2_record_67 ?_
  refine lt_top (y := 2) (by decide) ?_
  refine va_put (D := D) (ci := 2) (v := .int 2) (ty := .int) (C := RX2) (T := TX2) (N := 2) hx hb hts iw_X2_record_2 tyX2 tyX2_ok nmX2 hown hK hP hD hS 0 rfl rfl 1 (by decide) (hts (.fieldLink RX2 18 "LeafTurner$History" "size" "I") (by decide +kernel)) (fun _ h9 => h9) rfl (by decide +kernel) rfl rfl (Nat.le_of_ble_eq_true rfl) dX2_record_68 (fun H locs hP hD hS => ?_)
  have hP : va_P D vwCl (lt_Hi yI yO G 2 Bh (va_up Vh 1 (i', a')) ++ lt_St yI B' i' a') H := hP
  have hD : va_D A (lt_Hi yI yO G 2 Bh (va_up Vh 1 (i', a')) ++ lt_St yI B' i' a') := hD
  have hP : va_P D vwCl (lt_Hi yI yO G (X2_recz 1) (X2_recB 1 Bh) (X2_recV 1 Vh i' a') ++ lt_St yI B' i' a') H := hP
  have hD : va_D A (lt_Hi yI yO G (X2_recz 1) (X2_recB 1 Bh) (X2_recV 1 Vh i' a') ++ lt_St yI B' i' a') := hD
  exact W.vret hx hb hret (fun t ht hW => ⟨⟨(X2_recz 1, X2_recB 1 Bh, X2_recV 1 Vh i' a'), rfl, rfl, by rw [ht]; exact hP, hD⟩, hS.F ht⟩) hS.2.2 dX2_record_71

set_option maxHeartbeats 4000000 in
set_option maxRecDepth 100000 in
theorem c_X2_record_2 (l : Launch) (D : va_G) (yI yC yO : ClassId) (G : Nat → Nat) (B' : Nat → Nat) (Bh : Nat → Nat → Nat) (Vh : Nat → lt_SV) (i' : Nat → Int32) (a' : Nat → Nat → Int32) (sz : Nat) : Met l yX2_record wsX2_record ({ frames := 4, cells := 0, slots := 0, locals := 120 }) (va_Pc [.ref (G 0), .ref (B' 0)] (lt_M D yI yC yO (lt_Hi yI yO G 2 Bh Vh ++ lt_St yI B' i' a') sz)) (lt_Qv D (X2_record 2 Bh Vh i' a') (fun u => lt_Hi yI yO G u.1 u.2.1 u.2.2 ++ lt_St yI B' i' a') (va_A (lt_Hi yI yO G 2 Bh Vh ++ lt_St yI B' i' a') sz)) 0 0 (va_A (lt_Hi yI yO G 2 Bh Vh ++ lt_St yI B' i' a') sz) := by
  refine Met.ofW (cc := cX2_record) (maxL := 2) (ret := none) (by decide) rfl ?_
  intro p e s m args below meth c s₁ B0 hml hv
  obtain ⟨rfl, hsz, hP, hK0, hD0⟩ := hv
  have hx := B0.exec
  have hb := B0.bytes
  have hret := B0.returns
  have hts := atoms_spec (ws := wsX2_record) B0.pre
  have hown : s.vm.findClass RX2 = some m.cls := findClass_of_methodNamed B0.named
  have hlocks := B0.notSynchronized
  have hK := hK0.1
  have hN := hK0.2
  subst hsz
  have hD := hD0.self (sz := s.heap.size)
  generalize hAe : va_A (lt_Hi yI yO G 2 Bh Vh ++ lt_St yI B' i' a') s.heap.size = A at hD ⊢
  have hA : ∀ q : Nat, s.heap.size ≤ q → A q := fun q h => by rw [← hAe]; exact Or.inr h
  have hS : va_S A s.heap s.heap [] := va_S.rf
  have hP : va_P D vwCl (lt_Hi yI yO G 2 Bh Vh ++ lt_St yI B' i' a') s.heap := hP
  have hD : va_D A (lt_Hi yI yO G 2 Bh Vh ++ lt_St yI B' i' a') := hD
  have hl := lv_entry ([.ref (G 0), .ref (B' 0)]) (n := 2) (Nat.le_of_ble_eq_true rfl)
  rw [lg_entry_eq]
  generalize (lg_sl ([.ref (G 0), .ref (B' 0)]) ++ List.replicate (2 - (lg_sl ([.ref (G 0), .ref (B' 0)])).length) Slot.unset).toArray = ls at hl ⊢
  have hl : lv_has ls 2 [(0, .ref (G 0)), (1, .ref (B' 0))] := hl
  refine lv_aload_n hx hb dX2_record_0 rfl (lv_at hl 0 rfl) ?_
  refine va_get (D := D) (ci := 2) (v := .int 2) (C := RX2) (T := TX2) (N := 2) hx hb hts iw_X2_record_2 hown hK hP 0 rfl rfl 1 (by decide) (hts (.fieldLink RX2 18 "LeafTurner$History" "size" "I") (by decide +kernel)) (fun _ h9 => h9) rfl dX2_record_1 ?_
  refine lv_aload_n hx hb dX2_record_4 rfl (lv_at hl 0 rfl) ?_
  refine va_get (D := D) (ci := 2) (v := .ref (G 1)) (C := RX2) (T := TX2) (N := 2) hx hb hts iw_X2_record_2 hown hK hP 0 rfl rfl 0 (by decide) (hts (.fieldLink RX2 11 "LeafTurner$History" "states" "[LLeafTurner$State;") (by decide +kernel)) (fun _ h9 => h9) rfl dX2_record_5 ?_
  refine va_alen (v := 4) hx hb hK hP 1 2 rfl rfl rfl dX2_record_8 ?_
  refine lv_icmp_lt (tgt := 16) hx hb dX2_record_9 (by decide) (fun _ => ?_) (fun c => absurd c (by decide))
  refine lv_aload_n hx hb dX2_record_16 rfl (lv_at hl 0 rfl) ?_
  refine va_get (D := D) (ci := 2) (v := .int 2) (C := RX2) (T := TX2) (N := 2) hx hb hts iw_X2_record_2 hown hK hP 0 rfl rfl 1 (by decide) (hts (.fieldLink RX2 18 "LeafTurner$History" "size" "I") (by decide +kernel)) (fun _ h9 => h9) rfl dX2_record_17 ?_
  refine lv_if_lt (tgt := 47) hx hb dX2_record_20 (by decide) (fun c => absurd c (by decide)) (fun _ => ?_)
  refine lv_aload_n hx hb dX2_record_23 rfl (lv_at hl 0 rfl) ?_
  refine va_get (D := D) (ci := 2) (v := .int 2) (C := RX2) (T := TX2) (N := 2) hx hb hts iw_X2_record_2 hown hK hP 0 rfl rfl 1 (by decide) (hts (.fieldLink RX2 18 "LeafTurner$History" "size" "I") (by decide +kernel)) (fun _ h9 => h9) rfl dX2_record_24 ?_
  refine lv_aload_n hx hb dX2_record_27 rfl (lv_at hl 0 rfl) ?_
  refine va_get (D := D) (ci := 2) (v := .ref (G 1)) (C := RX2) (T := TX2) (N := 2) hx hb hts iw_X2_record_2 hown hK hP 0 rfl rfl 0 (by decide) (hts (.fieldLink RX2 11 "LeafTurner$History" "states" "[LLeafTurner$State;") (by decide +kernel)) (fun _ h9 => h9) rfl dX2_record_28 ?_
  refine va_alen (v := 4) hx hb hK hP 1 2 rfl rfl rfl dX2_record_31 ?_
  refine lv_icmp_ge (tgt := 47) hx hb dX2_record_32 (by decide) (fun c => absurd c (by decide)) (fun _ => ?_)
  refine lv_aload_n hx hb dX2_record_35 rfl (lv_at hl 0 rfl) ?_
  refine va_get (D := D) (ci := 2) (v := .ref (G 1)) (C := RX2) (T := TX2) (N := 2) hx hb hts iw_X2_record_2 hown hK hP 0 rfl rfl 0 (by decide) (hts (.fieldLink RX2 11 "LeafTurner$History" "states" "[LLeafTurner$State;") (by decide +kernel)) (fun _ h9 => h9) rfl dX2_record_36 ?_
  refine lv_aload_n hx hb dX2_record_39 rfl (lv_at hl 0 rfl) ?_
  refine va_get (D := D) (ci := 2) (v := .int 2) (C := RX2) (T := TX2) (N := 2) hx hb hts iw_X2_record_2 hown hK hP 0 rfl rfl 1 (by decide) (hts (.fieldLink RX2 18 "LeafTurner$History" "size" "I") (by decide +kernel)) (fun _ h9 => h9) rfl dX2_record_40 ?_
  refine va_aldq hx hb hK hP 1 2 rfl rfl (i := 2) (vp_in_iff.mpr (by decide)) dX2_record_43 ?_
  refine W.eq (g2 := F0 m 44 ls [.ref ((Bh 2) 0)]) rfl ?_
  refine lv_ifnonnull (tgt := 48) hx hb dX2_record_44 (by decide) ?_
  refine lv_aload_n hx hb dX2_record_48 rfl (lv_at hl 0 rfl) ?_
  refine va_get (D := D) (ci := 2) (v := .ref (G 1)) (C := RX2) (T := TX2) (N := 2) hx hb hts iw_X2_record_2 hown hK hP 0 rfl rfl 0 (by decide) (hts (.fieldLink RX2 11 "LeafTurner$History" "states" "[LLeafTurner$State;") (by decide +kernel)) (fun _ h9 => h9) rfl dX2_record_49 ?_
  refine lv_aload_n hx hb dX2_record_52 rfl (lv_at hl 0 rfl) ?_
  refine va_get (D := D) (ci := 2) (v := .int 2) (C := RX2) (T := TX2) (N := 2) hx hb hts iw_X2_record_2 hown hK hP 0 rfl rfl 1 (by decide) (hts (.fieldLink RX2 18 "LeafTurner$History" "size" "I") (by decide +kernel)) (fun _ h9 => h9) rfl dX2_record_53 ?_
  refine va_aldq hx hb hK hP 1 2 rfl rfl (i := 2) (vp_in_iff.mpr (by decide)) dX2_record_56 ?_
  refine W.eq (g2 := F0 m 57 ls [.ref ((Bh 2) 0)]) rfl ?_
  refine lv_aload_n hx hb dX2_record_57 rfl (lv_at hl 1 rfl) ?_
  have hPc := hP.sub (ws' := lt_St yI (Bh 2) ((Vh 2).1) ((Vh 2).2) ++ lt_St yI B' i' a') [40, 41, 42, 43, 44, 45, 46, 47, 48, 49, 50, 51, 52, 53, 54, 55, 56, 57, 58, 78, 79, 80, 81, 82, 83, 84, 85, 86, 87, 88, 89, 90, 91, 92, 93, 94, 95, 96] rfl
  have hDc := hD.sub (ws' := lt_St yI (Bh 2) ((Vh 2).1) ((Vh 2).2) ++ lt_St yI B' i' a') [40, 41, 42, 43, 44, 45, 46, 47, 48, 49, 50, 51, 52, 53, 54, 55, 56, 57, 58, 78, 79, 80, 81, 82, 83, 84, 85, 86, 87, 88, 89, 90, 91, 92, 93, 94, 95, 96] (by decide) rfl
  refine lt_cWv0 (wc := lt_St yI (Bh 2) ((Vh 2).1) ((Vh 2).2) ++ lt_St yI B' i' a') (wr := [(G 0, .inr (2, [.ref (G 1), .int 2])), (G 1, .inl (yO, 4, .inr (.inr (.inr (.inr (fun k => some (Bh k 0))))))), ((Bh 0) 0, .inr (6, [.ref ((Bh 0) 1), .ref ((Bh 0) 8), .ref ((Bh 0) 17), .int (((Vh 0).1) 1), .int (((Vh 0).1) 8), .int (((Vh 0).1) 4), .int (((Vh 0).1) 5), .int (((Vh 0).1) 6), .int (((Vh 0).1) 7), .int (((Vh 0).1) 3)])), ((Bh 0) 1, .inr (0, [.ref ((Bh 0) 2), .ref ((Bh 0) 4), .ref ((Bh 0) 6), .int (((Vh 0).1) 0)])), ((Bh 0) 2, .inr (3, [.ref ((Bh 0) 3)])), ((Bh 0) 3, .inl (yI, 30, .inl (((Vh 0).2) 0))), ((Bh 0) 4, .inr (3, [.ref ((Bh 0) 5)])), ((Bh 0) 5, .inl (yI, 30, .inl (((Vh 0).2) 1))), ((Bh 0) 6, .inr (3, [.ref ((Bh 0) 7)])), ((Bh 0) 7, .inl (yI, 60, .inl (((Vh 0).2) 2))), ((Bh 0) 8, .inr (5, [.ref ((Bh 0) 9), .ref ((Bh 0) 11), .ref ((Bh 0) 13), .ref ((Bh 0) 15), .int (((Vh 0).1) 2)])), ((Bh 0) 9, .inr (3, [.ref ((Bh 0) 10)])), ((Bh 0) 10, .inl (yI, 80, .inl (((Vh 0).2) 3))), ((Bh 0) 11, .inr (3, [.ref ((Bh 0) 12)])), ((Bh 0) 12, .inl (yI, 80, .inl (((Vh 0).2) 4))), ((Bh 0) 13, .inr (3, [.ref ((Bh 0) 14)])), ((Bh 0) 14, .inl (yI, 80, .inl (((Vh 0).2) 5))), ((Bh 0) 15, .inr (3, [.ref ((Bh 0) 16)])), ((Bh 0) 16, .inl (yI, 80, .inl (((Vh 0).2) 6))), ((Bh 0) 17, .inr (3, [.ref ((Bh 0) 18)])), ((Bh 0) 18, .inl (yI, 3, .inl (((Vh 0).2) 7))), ((Bh 1) 0, .inr (6, [.ref ((Bh 1) 1), .ref ((Bh 1) 8), .ref ((Bh 1) 17), .int (((Vh 1).1) 1), .int (((Vh 1).1) 8), .int (((Vh 1).1) 4), .int (((Vh 1).1) 5), .int (((Vh 1).1) 6), .int (((Vh 1).1) 7), .int (((Vh 1).1) 3)])), ((Bh 1) 1, .inr (0, [.ref ((Bh 1) 2), .ref ((Bh 1) 4), .ref ((Bh 1) 6), .int (((Vh 1).1) 0)])), ((Bh 1) 2, .inr (3, [.ref ((Bh 1) 3)])), ((Bh 1) 3, .inl (yI, 30, .inl (((Vh 1).2) 0))), ((Bh 1) 4, .inr (3, [.ref ((Bh 1) 5)])), ((Bh 1) 5, .inl (yI, 30, .inl (((Vh 1).2) 1))), ((Bh 1) 6, .inr (3, [.ref ((Bh 1) 7)])), ((Bh 1) 7, .inl (yI, 60, .inl (((Vh 1).2) 2))), ((Bh 1) 8, .inr (5, [.ref ((Bh 1) 9), .ref ((Bh 1) 11), .ref ((Bh 1) 13), .ref ((Bh 1) 15), .int (((Vh 1).1) 2)])), ((Bh 1) 9, .inr (3, [.ref ((Bh 1) 10)])), ((Bh 1) 10, .inl (yI, 80, .inl (((Vh 1).2) 3))), ((Bh 1) 11, .inr (3, [.ref ((Bh 1) 12)])), ((Bh 1) 12, .inl (yI, 80, .inl (((Vh 1).2) 4))), ((Bh 1) 13, .inr (3, [.ref ((Bh 1) 14)])), ((Bh 1) 14, .inl (yI, 80, .inl (((Vh 1).2) 5))), ((Bh 1) 15, .inr (3, [.ref ((Bh 1) 16)])), ((Bh 1) 16, .inl (yI, 80, .inl (((Vh 1).2) 6))), ((Bh 1) 17, .inr (3, [.ref ((Bh 1) 18)])), ((Bh 1) 18, .inl (yI, 3, .inl (((Vh 1).2) 7))), ((Bh 3) 0, .inr (6, [.ref ((Bh 3) 1), .ref ((Bh 3) 8), .ref ((Bh 3) 17), .int (((Vh 3).1) 1), .int (((Vh 3).1) 8), .int (((Vh 3).1) 4), .int (((Vh 3).1) 5), .int (((Vh 3).1) 6), .int (((Vh 3).1) 7), .int (((Vh 3).1) 3)])), ((Bh 3) 1, .inr (0, [.ref ((Bh 3) 2), .ref ((Bh 3) 4), .ref ((Bh 3) 6), .int (((Vh 3).1) 0)])), ((Bh 3) 2, .inr (3, [.ref ((Bh 3) 3)])), ((Bh 3) 3, .inl (yI, 30, .inl (((Vh 3).2) 0))), ((Bh 3) 4, .inr (3, [.ref ((Bh 3) 5)])), ((Bh 3) 5, .inl (yI, 30, .inl (((Vh 3).2) 1))), ((Bh 3) 6, .inr (3, [.ref ((Bh 3) 7)])), ((Bh 3) 7, .inl (yI, 60, .inl (((Vh 3).2) 2))), ((Bh 3) 8, .inr (5, [.ref ((Bh 3) 9), .ref ((Bh 3) 11), .ref ((Bh 3) 13), .ref ((Bh 3) 15), .int (((Vh 3).1) 2)])), ((Bh 3) 9, .inr (3, [.ref ((Bh 3) 10)])), ((Bh 3) 10, .inl (yI, 80, .inl (((Vh 3).2) 3))), ((Bh 3) 11, .inr (3, [.ref ((Bh 3) 12)])), ((Bh 3) 12, .inl (yI, 80, .inl (((Vh 3).2) 4))), ((Bh 3) 13, .inr (3, [.ref ((Bh 3) 14)])), ((Bh 3) 14, .inl (yI, 80, .inl (((Vh 3).2) 5))), ((Bh 3) 15, .inr (3, [.ref ((Bh 3) 16)])), ((Bh 3) 16, .inl (yI, 80, .inl (((Vh 3).2) 6))), ((Bh 3) 17, .inr (3, [.ref ((Bh 3) 18)])), ((Bh 3) 18, .inl (yI, 3, .inl (((Vh 3).2) 7)))]) (va_runV (As := [.ref (B' 0)]) (rest := []) ⟨hx, hb, hml, hown, hts⟩ (c_X6_copyFrom l D yI yC yO (Bh 2) B' ((Vh 2).1) ((Vh 2).2) i' a' _ ) (cwV 1 hts gX2_record_X6_copyFrom rfl rfl rfl (by decide +kernel) ⟨Nat.le_of_ble_eq_true rfl, Nat.le_of_ble_eq_true rfl⟩) (lt_qV hK0 hPc hDc (va_recv hK hPc (ci := 6) (q0 := 0) rfl rfl)) rfl rfl hl.1 rfl (lv_room (Nat.le_of_ble_eq_true rfl)) dX2_record_58 ⟨Nat.zero_le _, Nat.zero_le _⟩) hP hD hS hA [40, 41, 42, 43, 44, 45, 46, 47, 48, 49, 50, 51, 52, 53, 54, 55, 56, 57, 58, 78, 79, 80, 81, 82, 83, 84, 85, 86, 87, 88, 89, 90, 91, 92, 93, 94, 95, 96] [0, 1, 2, 3, 4, 5, 6, 7, 8, 9, 10, 11, 12, 13, 14, 15, 16, 17, 18, 19, 20, 21, 22, 23, 24, 25, 26, 27, 28, 29, 30, 31, 32, 33, 34, 35, 36, 37, 38, 39, 59, 60, 61, 62, 63, 64, 65, 66, 67, 68, 69, 70, 71, 72, 73, 74, 75, 76, 77] rfl rfl (by decide) (by decide) (fun H locs hP hD hS => ?_)
  have hP := hP.sub (ws' := lt_Hi yI yO G 2 Bh (va_up Vh 2 (i', a')) ++ lt_St yI B' i' a') [0, 1, 2, 3, 4, 5, 6, 7, 8, 9, 10, 11, 12, 13, 14, 15, 16, 17, 18, 19, 20, 21, 22, 23, 24, 25, 26, 27, 28, 29, 30, 31, 32, 33, 34, 35, 36, 37, 38, 39, 59, 60, 61, 62, 63, 64, 65, 66, 67, 68, 69, 70, 71, 72, 73, 74, 75, 76, 77, 40, 41, 42, 43, 44, 45, 46, 47, 48, 49, 50, 51, 52, 53, 54, 55, 56, 57, 58, 78, 79, 80, 81, 82, 83, 84, 85, 86, 87, 88, 89, 90, 91, 92, 93, 94, 95, 96] rfl
  have hD := hD.sub (ws' := lt_Hi yI yO G 2 Bh (va_up Vh 2 (i', a')) ++ lt_St yI B' i' a') [0, 1, 2, 3, 4, 5, 6, 7, 8, 9, 10, 11, 12, 13, 14, 15, 16, 17, 18, 19, 20, 21, 22, 23, 24, 25, 26, 27, 28, 29, 30, 31, 32, 33, 34, 35, 36, 37, 38, 39, 59, 60, 61, 62, 63, 64, 65, 66, 67, 68, 69, 70, 71, 72, 73, 74, 75, 76, 77, 40, 41, 42, 43, 44, 45, 46, 47, 48, 49, 50, 51, 52, 53, 54, 55, 56, 57, 58, 78, 79, 80, 81, 82, 83, 84, 85, 86, 87, 88, 89, 90, 91, 92, 93, 94, 95, 96] (by decide) rfl
  refine lv_aload_n hx hb dX2_record_61 rfl (lv_at hl 0 rfl) ?_
  refine lv_dup hx hb dX2_record_62 rfl ?_
  refine va_get (D := D) (ci := 2) (v := .int 2) (C := RX2) (T := TX2) (N := 2) hx hb hts iw_X2_record_2 hown hK hP 0 rfl rfl 1 (by decide) (hts (.fieldLink RX2 18 "LeafTurner$History" "size" "I") (by decide +kernel)) (fun _ h9 => h9) rfl dX2_record_63 ?_
  refine lv_iconst (v := 1) hx hb dX2_record_66 (by decide) ?_
  refine lv_iadd hx hb dX2_record_67 ?_
  refine lt_top (y := 3) (by decide) ?_
  refine va_put (D := D) (ci := 2) (v := .int 3) (ty := .int) (C := RX2) (T := TX2) (N := 2) hx hb hts iw_X2_record_2 tyX2 tyX2_ok nmX2 hown hK hP hD hS 0 rfl rfl 1 (by decide) (hts (.fieldLink RX2 18 "LeafTurner$History" "size" "I") (by decide +kernel)) (fun _ h9 => h9) rfl (by decide +kernel) rfl rfl (Nat.le_of_ble_eq_true rfl) dX2_record_68 (fun H locs hP hD hS => ?_)
  have hP : va_P D vwCl (lt_Hi yI yO G 3 Bh (va_up Vh 2 (i', a')) ++ lt_St yI B' i' a') H := hP
  have hD : va_D A (lt_Hi yI yO G 3 Bh (va_up Vh 2 (i', a')) ++ lt_St yI B' i' a') := hD
  have hP : va_P D vwCl (lt_Hi yI yO G (X2_recz 2) (X2_recB 2 Bh) (X2_recV 2 Vh i' a') ++ lt_St yI B' i' a') H := hP
  have hD : va_D A (lt_Hi yI yO G (X2_recz 2) (X2_recB 2 Bh) (X2_recV 2 Vh i' a') ++ lt_St yI B' i' a') := hD
  exact W.vret hx hb hret (fun t ht hW => ⟨⟨(X2_recz 2, X2_recB 2 Bh, X2_recV 2 Vh i' a'), rfl, rfl, by rw [ht]; exact hP, hD⟩, hS.F ht⟩) hS.2.2 dX2_record_71

set_option maxHeartbeats 4000000 in
set_option maxRecDepth 100000 in
theorem c_X2_record_3 (l : Launch) (D : va_G) (yI yC yO : ClassId) (G : Nat → Nat) (B' : Nat → Nat) (Bh : Nat → Nat → Nat) (Vh : Nat → lt_SV) (i' : Nat → Int32) (a' : Nat → Nat → Int32) (sz : Nat) : Met l yX2_record wsX2_record ({ frames := 4, cells := 0, slots := 0, locals := 120 }) (va_Pc [.ref (G 0), .ref (B' 0)] (lt_M D yI yC yO (lt_Hi yI yO G 3 Bh Vh ++ lt_St yI B' i' a') sz)) (lt_Qv D (X2_record 3 Bh Vh i' a') (fun u => lt_Hi yI yO G u.1 u.2.1 u.2.2 ++ lt_St yI B' i' a') (va_A (lt_Hi yI yO G 3 Bh Vh ++ lt_St yI B' i' a') sz)) 0 0 (va_A (lt_Hi yI yO G 3 Bh Vh ++ lt_St yI B' i' a') sz) := by
  refine Met.ofW (cc := cX2_record) (maxL := 2) (ret := none) (by decide) rfl ?_
  intro p e s m args below meth c s₁ B0 hml hv
  obtain ⟨rfl, hsz, hP, hK0, hD0⟩ := hv
  have hx := B0.exec
  have hb := B0.bytes
  have hret := B0.returns
  have hts := atoms_spec (ws := wsX2_record) B0.pre
  have hown : s.vm.findClass RX2 = some m.cls := findClass_of_methodNamed B0.named
  have hlocks := B0.notSynchronized
  have hK := hK0.1
  have hN := hK0.2
  subst hsz
  have hD := hD0.self (sz := s.heap.size)
  generalize hAe : va_A (lt_Hi yI yO G 3 Bh Vh ++ lt_St yI B' i' a') s.heap.size = A at hD ⊢
  have hA : ∀ q : Nat, s.heap.size ≤ q → A q := fun q h => by rw [← hAe]; exact Or.inr h
  have hS : va_S A s.heap s.heap [] := va_S.rf
  have hP : va_P D vwCl (lt_Hi yI yO G 3 Bh Vh ++ lt_St yI B' i' a') s.heap := hP
  have hD : va_D A (lt_Hi yI yO G 3 Bh Vh ++ lt_St yI B' i' a') := hD
  have hl := lv_entry ([.ref (G 0), .ref (B' 0)]) (n := 2) (Nat.le_of_ble_eq_true rfl)
  rw [lg_entry_eq]
  generalize (lg_sl ([.ref (G 0), .ref (B' 0)]) ++ List.replicate (2 - (lg_sl ([.ref (G 0), .ref (B' 0)])).length) Slot.unset).toArray = ls at hl ⊢
  have hl : lv_has ls 2 [(0, .ref (G 0)), (1, .ref (B' 0))] := hl
  refine lv_aload_n hx hb dX2_record_0 rfl (lv_at hl 0 rfl) ?_
  refine va_get (D := D) (ci := 2) (v := .int 3) (C := RX2) (T := TX2) (N := 2) hx hb hts iw_X2_record_2 hown hK hP 0 rfl rfl 1 (by decide) (hts (.fieldLink RX2 18 "LeafTurner$History" "size" "I") (by decide +kernel)) (fun _ h9 => h9) rfl dX2_record_1 ?_
  refine lv_aload_n hx hb dX2_record_4 rfl (lv_at hl 0 rfl) ?_
  refine va_get (D := D) (ci := 2) (v := .ref (G 1)) (C := RX2) (T := TX2) (N := 2) hx hb hts iw_X2_record_2 hown hK hP 0 rfl rfl 0 (by decide) (hts (.fieldLink RX2 11 "LeafTurner$History" "states" "[LLeafTurner$State;") (by decide +kernel)) (fun _ h9 => h9) rfl dX2_record_5 ?_
  refine va_alen (v := 4) hx hb hK hP 1 2 rfl rfl rfl dX2_record_8 ?_
  refine lv_icmp_lt (tgt := 16) hx hb dX2_record_9 (by decide) (fun _ => ?_) (fun c => absurd c (by decide))
  refine lv_aload_n hx hb dX2_record_16 rfl (lv_at hl 0 rfl) ?_
  refine va_get (D := D) (ci := 2) (v := .int 3) (C := RX2) (T := TX2) (N := 2) hx hb hts iw_X2_record_2 hown hK hP 0 rfl rfl 1 (by decide) (hts (.fieldLink RX2 18 "LeafTurner$History" "size" "I") (by decide +kernel)) (fun _ h9 => h9) rfl dX2_record_17 ?_
  refine lv_if_lt (tgt := 47) hx hb dX2_record_20 (by decide) (fun c => absurd c (by decide)) (fun _ => ?_)
  refine lv_aload_n hx hb dX2_record_23 rfl (lv_at hl 0 rfl) ?_
  refine va_get (D := D) (ci := 2) (v := .int 3) (C := RX2) (T := TX2) (N := 2) hx hb hts iw_X2_record_2 hown hK hP 0 rfl rfl 1 (by decide) (hts (.fieldLink RX2 18 "LeafTurner$History" "size" "I") (by decide +kernel)) (fun _ h9 => h9) rfl dX2_record_24 ?_
  refine lv_aload_n hx hb dX2_record_27 rfl (lv_at hl 0 rfl) ?_
  refine va_get (D := D) (ci := 2) (v := .ref (G 1)) (C := RX2) (T := TX2) (N := 2) hx hb hts iw_X2_record_2 hown hK hP 0 rfl rfl 0 (by decide) (hts (.fieldLink RX2 11 "LeafTurner$History" "states" "[LLeafTurner$State;") (by decide +kernel)) (fun _ h9 => h9) rfl dX2_record_28 ?_
  refine va_alen (v := 4) hx hb hK hP 1 2 rfl rfl rfl dX2_record_31 ?_
  refine lv_icmp_ge (tgt := 47) hx hb dX2_record_32 (by decide) (fun c => absurd c (by decide)) (fun _ => ?_)
  refine lv_aload_n hx hb dX2_record_35 rfl (lv_at hl 0 rfl) ?_
  refine va_get (D := D) (ci := 2) (v := .ref (G 1)) (C := RX2) (T := TX2) (N := 2) hx hb hts iw_X2_record_2 hown hK hP 0 rfl rfl 0 (by decide) (hts (.fieldLink RX2 11 "LeafTurner$History" "states" "[LLeafTurner$State;") (by decide +kernel)) (fun _ h9 => h9) rfl dX2_record_36 ?_
  refine lv_aload_n hx hb dX2_record_39 rfl (lv_at hl 0 rfl) ?_
  refine va_get (D := D) (ci := 2) (v := .int 3) (C := RX2) (T := TX2) (N := 2) hx hb hts iw_X2_record_2 hown hK hP 0 rfl rfl 1 (by decide) (hts (.fieldLink RX2 18 "LeafTurner$History" "size" "I") (by decide +kernel)) (fun _ h9 => h9) rfl dX2_record_40 ?_
  refine va_aldq hx hb hK hP 1 2 rfl rfl (i := 3) (vp_in_iff.mpr (by decide)) dX2_record_43 ?_
  refine W.eq (g2 := F0 m 44 ls [.ref ((Bh 3) 0)]) rfl ?_
  refine lv_ifnonnull (tgt := 48) hx hb dX2_record_44 (by decide) ?_
  refine lv_aload_n hx hb dX2_record_48 rfl (lv_at hl 0 rfl) ?_
  refine va_get (D := D) (ci := 2) (v := .ref (G 1)) (C := RX2) (T := TX2) (N := 2) hx hb hts iw_X2_record_2 hown hK hP 0 rfl rfl 0 (by decide) (hts (.fieldLink RX2 11 "LeafTurner$History" "states" "[LLeafTurner$State;") (by decide +kernel)) (fun _ h9 => h9) rfl dX2_record_49 ?_
  refine lv_aload_n hx hb dX2_record_52 rfl (lv_at hl 0 rfl) ?_
  refine va_get (D := D) (ci := 2) (v := .int 3) (C := RX2) (T := TX2) (N := 2) hx hb hts iw_X2_record_2 hown hK hP 0 rfl rfl 1 (by decide) (hts (.fieldLink RX2 18 "LeafTurner$History" "size" "I") (by decide +kernel)) (fun _ h9 => h9) rfl dX2_record_53 ?_
  refine va_aldq hx hb hK hP 1 2 rfl rfl (i := 3) (vp_in_iff.mpr (by decide)) dX2_record_56 ?_
  refine W.eq (g2 := F0 m 57 ls [.ref ((Bh 3) 0)]) rfl ?_
  refine lv_aload_n hx hb dX2_record_57 rfl (lv_at hl 1 rfl) ?_
  have hPc := hP.sub (ws' := lt_St yI (Bh 3) ((Vh 3).1) ((Vh 3).2) ++ lt_St yI B' i' a') [59, 60, 61, 62, 63, 64, 65, 66, 67, 68, 69, 70, 71, 72, 73, 74, 75, 76, 77, 78, 79, 80, 81, 82, 83, 84, 85, 86, 87, 88, 89, 90, 91, 92, 93, 94, 95, 96] rfl
  have hDc := hD.sub (ws' := lt_St yI (Bh 3) ((Vh 3).1) ((Vh 3).2) ++ lt_St yI B' i' a') [59, 60, 61, 62, 63, 64, 65, 66, 67, 68, 69, 70, 71, 72, 73, 74, 75, 76, 77, 78, 79, 80, 81, 82, 83, 84, 85, 86, 87, 88, 89, 90, 91, 92, 93, 94, 95, 96] (by decide) rfl
  refine lt_cWv0 (wc := lt_St yI (Bh 3) ((Vh 3).1) ((Vh 3).2) ++ lt_St yI B' i' a') (wr := [(G 0, .inr (2, [.ref (G 1), .int 3])), (G 1, .inl (yO, 4, .inr (.inr (.inr (.inr (fun k => some (Bh k 0))))))), ((Bh 0) 0, .inr (6, [.ref ((Bh 0) 1), .ref ((Bh 0) 8), .ref ((Bh 0) 17), .int (((Vh 0).1) 1), .int (((Vh 0).1) 8), .int (((Vh 0).1) 4), .int (((Vh 0).1) 5), .int (((Vh 0).1) 6), .int (((Vh 0).1) 7), .int (((Vh 0).1) 3)])), ((Bh 0) 1, .inr (0, [.ref ((Bh 0) 2), .ref ((Bh 0) 4), .ref ((Bh 0) 6), .int (((Vh 0).1) 0)])), ((Bh 0) 2, .inr (3, [.ref ((Bh 0) 3)])), ((Bh 0) 3, .inl (yI, 30, .inl (((Vh 0).2) 0))), ((Bh 0) 4, .inr (3, [.ref ((Bh 0) 5)])), ((Bh 0) 5, .inl (yI, 30, .inl (((Vh 0).2) 1))), ((Bh 0) 6, .inr (3, [.ref ((Bh 0) 7)])), ((Bh 0) 7, .inl (yI, 60, .inl (((Vh 0).2) 2))), ((Bh 0) 8, .inr (5, [.ref ((Bh 0) 9), .ref ((Bh 0) 11), .ref ((Bh 0) 13), .ref ((Bh 0) 15), .int (((Vh 0).1) 2)])), ((Bh 0) 9, .inr (3, [.ref ((Bh 0) 10)])), ((Bh 0) 10, .inl (yI, 80, .inl (((Vh 0).2) 3))), ((Bh 0) 11, .inr (3, [.ref ((Bh 0) 12)])), ((Bh 0) 12, .inl (yI, 80, .inl (((Vh 0).2) 4))), ((Bh 0) 13, .inr (3, [.ref ((Bh 0) 14)])), ((Bh 0) 14, .inl (yI, 80, .inl (((Vh 0).2) 5))), ((Bh 0) 15, .inr (3, [.ref ((Bh 0) 16)])), ((Bh 0) 16, .inl (yI, 80, .inl (((Vh 0).2) 6))), ((Bh 0) 17, .inr (3, [.ref ((Bh 0) 18)])), ((Bh 0) 18, .inl (yI, 3, .inl (((Vh 0).2) 7))), ((Bh 1) 0, .inr (6, [.ref ((Bh 1) 1), .ref ((Bh 1) 8), .ref ((Bh 1) 17), .int (((Vh 1).1) 1), .int (((Vh 1).1) 8), .int (((Vh 1).1) 4), .int (((Vh 1).1) 5), .int (((Vh 1).1) 6), .int (((Vh 1).1) 7), .int (((Vh 1).1) 3)])), ((Bh 1) 1, .inr (0, [.ref ((Bh 1) 2), .ref ((Bh 1) 4), .ref ((Bh 1) 6), .int (((Vh 1).1) 0)])), ((Bh 1) 2, .inr (3, [.ref ((Bh 1) 3)])), ((Bh 1) 3, .inl (yI, 30, .inl (((Vh 1).2) 0))), ((Bh 1) 4, .inr (3, [.ref ((Bh 1) 5)])), ((Bh 1) 5, .inl (yI, 30, .inl (((Vh 1).2) 1))), ((Bh 1) 6, .inr (3, [.ref ((Bh 1) 7)])), ((Bh 1) 7, .inl (yI, 60, .inl (((Vh 1).2) 2))), ((Bh 1) 8, .inr (5, [.ref ((Bh 1) 9), .ref ((Bh 1) 11), .ref ((Bh 1) 13), .ref ((Bh 1) 15), .int (((Vh 1).1) 2)])), ((Bh 1) 9, .inr (3, [.ref ((Bh 1) 10)])), ((Bh 1) 10, .inl (yI, 80, .inl (((Vh 1).2) 3))), ((Bh 1) 11, .inr (3, [.ref ((Bh 1) 12)])), ((Bh 1) 12, .inl (yI, 80, .inl (((Vh 1).2) 4))), ((Bh 1) 13, .inr (3, [.ref ((Bh 1) 14)])), ((Bh 1) 14, .inl (yI, 80, .inl (((Vh 1).2) 5))), ((Bh 1) 15, .inr (3, [.ref ((Bh 1) 16)])), ((Bh 1) 16, .inl (yI, 80, .inl (((Vh 1).2) 6))), ((Bh 1) 17, .inr (3, [.ref ((Bh 1) 18)])), ((Bh 1) 18, .inl (yI, 3, .inl (((Vh 1).2) 7))), ((Bh 2) 0, .inr (6, [.ref ((Bh 2) 1), .ref ((Bh 2) 8), .ref ((Bh 2) 17), .int (((Vh 2).1) 1), .int (((Vh 2).1) 8), .int (((Vh 2).1) 4), .int (((Vh 2).1) 5), .int (((Vh 2).1) 6), .int (((Vh 2).1) 7), .int (((Vh 2).1) 3)])), ((Bh 2) 1, .inr (0, [.ref ((Bh 2) 2), .ref ((Bh 2) 4), .ref ((Bh 2) 6), .int (((Vh 2).1) 0)])), ((Bh 2) 2, .inr (3, [.ref ((Bh 2) 3)])), ((Bh 2) 3, .inl (yI, 30, .inl (((Vh 2).2) 0))), ((Bh 2) 4, .inr (3, [.ref ((Bh 2) 5)])), ((Bh 2) 5, .inl (yI, 30, .inl (((Vh 2).2) 1))), ((Bh 2) 6, .inr (3, [.ref ((Bh 2) 7)])), ((Bh 2) 7, .inl (yI, 60, .inl (((Vh 2).2) 2))), ((Bh 2) 8, .inr (5, [.ref ((Bh 2) 9), .ref ((Bh 2) 11), .ref ((Bh 2) 13), .ref ((Bh 2) 15), .int (((Vh 2).1) 2)])), ((Bh 2) 9, .inr (3, [.ref ((Bh 2) 10)])), ((Bh 2) 10, .inl (yI, 80, .inl (((Vh 2).2) 3))), ((Bh 2) 11, .inr (3, [.ref ((Bh 2) 12)])), ((Bh 2) 12, .inl (yI, 80, .inl (((Vh 2).2) 4))), ((Bh 2) 13, .inr (3, [.ref ((Bh 2) 14)])), ((Bh 2) 14, .inl (yI, 80, .inl (((Vh 2).2) 5))), ((Bh 2) 15, .inr (3, [.ref ((Bh 2) 16)])), ((Bh 2) 16, .inl (yI, 80, .inl (((Vh 2).2) 6))), ((Bh 2) 17, .inr (3, [.ref ((Bh 2) 18)])), ((Bh 2) 18, .inl (yI, 3, .inl (((Vh 2).2) 7)))]) (va_runV (As := [.ref (B' 0)]) (rest := []) ⟨hx, hb, hml, hown, hts⟩ (c_X6_copyFrom l D yI yC yO (Bh 3) B' ((Vh 3).1) ((Vh 3).2) i' a' _ ) (cwV 1 hts gX2_record_X6_copyFrom rfl rfl rfl (by decide +kernel) ⟨Nat.le_of_ble_eq_true rfl, Nat.le_of_ble_eq_true rfl⟩) (lt_qV hK0 hPc hDc (va_recv hK hPc (ci := 6) (q0 := 0) rfl rfl)) rfl rfl hl.1 rfl (lv_room (Nat.le_of_ble_eq_true rfl)) dX2_record_58 ⟨Nat.zero_le _, Nat.zero_le _⟩) hP hD hS hA [59, 60, 61, 62, 63, 64, 65, 66, 67, 68, 69, 70, 71, 72, 73, 74, 75, 76, 77, 78, 79, 80, 81, 82, 83, 84, 85, 86, 87, 88, 89, 90, 91, 92, 93, 94, 95, 96] [0, 1, 2, 3, 4, 5, 6, 7, 8, 9, 10, 11, 12, 13, 14, 15, 16, 17, 18, 19, 20, 21, 22, 23, 24, 25, 26, 27, 28, 29, 30, 31, 32, 33, 34, 35, 36, 37, 38, 39, 40, 41, 42, 43, 44, 45, 46, 47, 48, 49, 50, 51, 52, 53, 54, 55, 56, 57, 58] rfl rfl (by decide) (by decide) (fun H locs hP hD hS => ?_)
  have hP := hP.sub (ws' := lt_Hi yI yO G 3 Bh (va_up Vh 3 (i', a')) ++ lt_St yI B' i' a') [0, 1, 2, 3, 4, 5, 6, 7, 8, 9, 10, 11, 12, 13, 14, 15, 16, 17, 18, 19, 20, 21, 22, 23, 24, 25, 26, 27, 28, 29, 30, 31, 32, 33, 34, 35, 36, 37, 38, 39, 40, 41, 42, 43, 44, 45, 46, 47, 48, 49, 50, 51, 52, 53, 54, 55, 56, 57, 58, 59, 60, 61, 62, 63, 64, 65, 66, 67, 68, 69, 70, 71, 72, 73, 74, 75, 76, 77, 78, 79, 80, 81, 82, 83, 84, 85, 86, 87, 88, 89, 90, 91, 92, 93, 94, 95, 96] rfl
  have hD := hD.sub (ws' := lt_Hi yI yO G 3 Bh (va_up Vh 3 (i', a')) ++ lt_St yI B' i' a') [0, 1, 2, 3, 4, 5, 6, 7, 8, 9, 10, 11, 12, 13, 14, 15, 16, 17, 18, 19, 20, 21, 22, 23, 24, 25, 26, 27, 28, 29, 30, 31, 32, 33, 34, 35, 36, 37, 38, 39, 40, 41, 42, 43, 44, 45, 46, 47, 48, 49, 50, 51, 52, 53, 54, 55, 56, 57, 58, 59, 60, 61, 62, 63, 64, 65, 66, 67, 68, 69, 70, 71, 72, 73, 74, 75, 76, 77, 78, 79, 80, 81, 82, 83, 84, 85, 86, 87, 88, 89, 90, 91, 92, 93, 94, 95, 96] (by decide) rfl
  refine lv_aload_n hx hb dX2_record_61 rfl (lv_at hl 0 rfl) ?_
  refine lv_dup hx hb dX2_record_62 rfl ?_
  refine va_get (D := D) (ci := 2) (v := .int 3) (C := RX2) (T := TX2) (N := 2) hx hb hts iw_X2_record_2 hown hK hP 0 rfl rfl 1 (by decide) (hts (.fieldLink RX2 18 "LeafTurner$History" "size" "I") (by decide +kernel)) (fun _ h9 => h9) rfl dX2_record_63 ?_
  refine lv_iconst (v := 1) hx hb dX2_record_66 (by decide) ?_
  refine lv_iadd hx hb dX2_record_67 ?_
  refine lt_top (y := 4) (by decide) ?_
  refine va_put (D := D) (ci := 2) (v := .int 4) (ty := .int) (C := RX2) (T := TX2) (N := 2) hx hb hts iw_X2_record_2 tyX2 tyX2_ok nmX2 hown hK hP hD hS 0 rfl rfl 1 (by decide) (hts (.fieldLink RX2 18 "LeafTurner$History" "size" "I") (by decide +kernel)) (fun _ h9 => h9) rfl (by decide +kernel) rfl rfl (Nat.le_of_ble_eq_true rfl) dX2_record_68 (fun H locs hP hD hS => ?_)
  have hP : va_P D vwCl (lt_Hi yI yO G 4 Bh (va_up Vh 3 (i', a')) ++ lt_St yI B' i' a') H := hP
  have hD : va_D A (lt_Hi yI yO G 4 Bh (va_up Vh 3 (i', a')) ++ lt_St yI B' i' a') := hD
  have hP : va_P D vwCl (lt_Hi yI yO G (X2_recz 3) (X2_recB 3 Bh) (X2_recV 3 Vh i' a') ++ lt_St yI B' i' a') H := hP
  have hD : va_D A (lt_Hi yI yO G (X2_recz 3) (X2_recB 3 Bh) (X2_recV 3 Vh i' a') ++ lt_St yI B' i' a') := hD
  exact W.vret hx hb hret (fun t ht hW => ⟨⟨(X2_recz 3, X2_recB 3 Bh, X2_recV 3 Vh i' a'), rfl, rfl, by rw [ht]; exact hP, hD⟩, hS.F ht⟩) hS.2.2 dX2_record_71

set_option maxHeartbeats 4000000 in
set_option maxRecDepth 100000 in
theorem c_X2_record_4 (l : Launch) (D : va_G) (yI yC yO : ClassId) (G : Nat → Nat) (B' : Nat → Nat) (Bh : Nat → Nat → Nat) (Vh : Nat → lt_SV) (i' : Nat → Int32) (a' : Nat → Nat → Int32) (sz : Nat) : Met l yX2_record wsX2_record ({ frames := 4, cells := 0, slots := 0, locals := 120 }) (va_Pc [.ref (G 0), .ref (B' 0)] (lt_M D yI yC yO (lt_Hi yI yO G 4 Bh Vh ++ lt_St yI B' i' a') sz)) (lt_Qv D (X2_record 4 Bh Vh i' a') (fun u => lt_Hi yI yO G u.1 u.2.1 u.2.2 ++ lt_St yI B' i' a') (va_A (lt_Hi yI yO G 4 Bh Vh ++ lt_St yI B' i' a') sz)) 0 0 (va_A (lt_Hi yI yO G 4 Bh Vh ++ lt_St yI B' i' a') sz) := by
  refine Met.ofW (cc := cX2_record) (maxL := 2) (ret := none) (by decide) rfl ?_
  intro p e s m args below meth c s₁ B0 hml hv
  obtain ⟨rfl, hsz, hP, hK0, hD0⟩ := hv
  have hx := B0.exec
  have hb := B0.bytes
  have hret := B0.returns
  have hts := atoms_spec (ws := wsX2_record) B0.pre
  have hown : s.vm.findClass RX2 = some m.cls := findClass_of_methodNamed B0.named
  have hlocks := B0.notSynchronized
  have hK := hK0.1
  have hN := hK0.2
  subst hsz
  have hD := hD0.self (sz := s.heap.size)
  generalize hAe : va_A (lt_Hi yI yO G 4 Bh Vh ++ lt_St yI B' i' a') s.heap.size = A at hD ⊢
  have hA : ∀ q : Nat, s.heap.size ≤ q → A q := fun q h => by rw [← hAe]; exact Or.inr h
  have hS : va_S A s.heap s.heap [] := va_S.rf
  have hP : va_P D vwCl (lt_Hi yI yO G 4 Bh Vh ++ lt_St yI B' i' a') s.heap := hP
  have hD : va_D A (lt_Hi yI yO G 4 Bh Vh ++ lt_St yI B' i' a') := hD
  have hl := lv_entry ([.ref (G 0), .ref (B' 0)]) (n := 2) (Nat.le_of_ble_eq_true rfl)
  rw [lg_entry_eq]
  generalize (lg_sl ([.ref (G 0), .ref (B' 0)]) ++ List.replicate (2 - (lg_sl ([.ref (G 0), .ref (B' 0)])).length) Slot.unset).toArray = ls at hl ⊢
  have hl : lv_has ls 2 [(0, .ref (G 0)), (1, .ref (B' 0))] := hl
  refine lv_aload_n hx hb dX2_record_0 rfl (lv_at hl 0 rfl) ?_
  refine va_get (D := D) (ci := 2) (v := .int 4) (C := RX2) (T := TX2) (N := 2) hx hb hts iw_X2_record_2 hown hK hP 0 rfl rfl 1 (by decide) (hts (.fieldLink RX2 18 "LeafTurner$History" "size" "I") (by decide +kernel)) (fun _ h9 => h9) rfl dX2_record_1 ?_
  refine lv_aload_n hx hb dX2_record_4 rfl (lv_at hl 0 rfl) ?_
  refine va_get (D := D) (ci := 2) (v := .ref (G 1)) (C := RX2) (T := TX2) (N := 2) hx hb hts iw_X2_record_2 hown hK hP 0 rfl rfl 0 (by decide) (hts (.fieldLink RX2 11 "LeafTurner$History" "states" "[LLeafTurner$State;") (by decide +kernel)) (fun _ h9 => h9) rfl dX2_record_5 ?_
  refine va_alen (v := 4) hx hb hK hP 1 2 rfl rfl rfl dX2_record_8 ?_
  refine lv_icmp_lt (tgt := 16) hx hb dX2_record_9 (by decide) (fun c => absurd c (by decide)) (fun _ => ?_)
  refine lv_aload_n hx hb dX2_record_12 rfl (lv_at hl 0 rfl) ?_
  have hPc := hP.sub (ws' := lt_Hi yI yO G 4 Bh Vh) [0, 1, 2, 3, 4, 5, 6, 7, 8, 9, 10, 11, 12, 13, 14, 15, 16, 17, 18, 19, 20, 21, 22, 23, 24, 25, 26, 27, 28, 29, 30, 31, 32, 33, 34, 35, 36, 37, 38, 39, 40, 41, 42, 43, 44, 45, 46, 47, 48, 49, 50, 51, 52, 53, 54, 55, 56, 57, 58, 59, 60, 61, 62, 63, 64, 65, 66, 67, 68, 69, 70, 71, 72, 73, 74, 75, 76, 77] rfl
  have hDc := hD.sub (ws' := lt_Hi yI yO G 4 Bh Vh) [0, 1, 2, 3, 4, 5, 6, 7, 8, 9, 10, 11, 12, 13, 14, 15, 16, 17, 18, 19, 20, 21, 22, 23, 24, 25, 26, 27, 28, 29, 30, 31, 32, 33, 34, 35, 36, 37, 38, 39, 40, 41, 42, 43, 44, 45, 46, 47, 48, 49, 50, 51, 52, 53, 54, 55, 56, 57, 58, 59, 60, 61, 62, 63, 64, 65, 66, 67, 68, 69, 70, 71, 72, 73, 74, 75, 76, 77] (by decide) rfl
  refine lt_cWv0 (wc := lt_Hi yI yO G 4 Bh Vh) (wr := [(B' 0, .inr (6, [.ref (B' 1), .ref (B' 8), .ref (B' 17), .int (i' 1), .int (i' 8), .int (i' 4), .int (i' 5), .int (i' 6), .int (i' 7), .int (i' 3)])), (B' 1, .inr (0, [.ref (B' 2), .ref (B' 4), .ref (B' 6), .int (i' 0)])), (B' 2, .inr (3, [.ref (B' 3)])), (B' 3, .inl (yI, 30, .inl (a' 0))), (B' 4, .inr (3, [.ref (B' 5)])), (B' 5, .inl (yI, 30, .inl (a' 1))), (B' 6, .inr (3, [.ref (B' 7)])), (B' 7, .inl (yI, 60, .inl (a' 2))), (B' 8, .inr (5, [.ref (B' 9), .ref (B' 11), .ref (B' 13), .ref (B' 15), .int (i' 2)])), (B' 9, .inr (3, [.ref (B' 10)])), (B' 10, .inl (yI, 80, .inl (a' 3))), (B' 11, .inr (3, [.ref (B' 12)])), (B' 12, .inl (yI, 80, .inl (a' 4))), (B' 13, .inr (3, [.ref (B' 14)])), (B' 14, .inl (yI, 80, .inl (a' 5))), (B' 15, .inr (3, [.ref (B' 16)])), (B' 16, .inl (yI, 80, .inl (a' 6))), (B' 17, .inr (3, [.ref (B' 18)])), (B' 18, .inl (yI, 3, .inl (a' 7)))]) (va_runV (As := []) (rest := []) ⟨hx, hb, hml, hown, hts⟩ (c_X2_dropOldest l D yI yC yO G Bh Vh _ ) (cwV 0 hts gX2_record_X2_dropOldest rfl rfl rfl (by decide +kernel) ⟨Nat.le_of_ble_eq_true rfl, Nat.le_of_ble_eq_true rfl⟩) (lt_qV hK0 hPc hDc (va_recv hK hPc (ci := 2) (q0 := 0) rfl rfl)) rfl rfl hl.1 rfl (lv_room (Nat.le_of_ble_eq_true rfl)) dX2_record_13 ⟨Nat.zero_le _, Nat.zero_le _⟩) hP hD hS hA [0, 1, 2, 3, 4, 5, 6, 7, 8, 9, 10, 11, 12, 13, 14, 15, 16, 17, 18, 19, 20, 21, 22, 23, 24, 25, 26, 27, 28, 29, 30, 31, 32, 33, 34, 35, 36, 37, 38, 39, 40, 41, 42, 43, 44, 45, 46, 47, 48, 49, 50, 51, 52, 53, 54, 55, 56, 57, 58, 59, 60, 61, 62, 63, 64, 65, 66, 67, 68, 69, 70, 71, 72, 73, 74, 75, 76, 77] [78, 79, 80, 81, 82, 83, 84, 85, 86, 87, 88, 89, 90, 91, 92, 93, 94, 95, 96] rfl rfl (by decide) (by decide) (fun H locs hP hD hS => ?_)
  have hP := hP.sub (ws' := lt_Hi yI yO G 3 (lt_rot Bh) (lt_rot Vh) ++ lt_St yI B' i' a') [19, 20, 21, 22, 23, 24, 25, 26, 27, 28, 29, 30, 31, 32, 33, 34, 35, 36, 37, 38, 39, 40, 41, 42, 43, 44, 45, 46, 47, 48, 49, 50, 51, 52, 53, 54, 55, 56, 57, 58, 59, 60, 61, 62, 63, 64, 65, 66, 67, 68, 69, 70, 71, 72, 73, 74, 75, 76, 77, 78, 79, 80, 81, 82, 83, 84, 85, 86, 87, 88, 89, 90, 91, 92, 93, 94, 95, 96, 0, 1, 2, 3, 4, 5, 6, 7, 8, 9, 10, 11, 12, 13, 14, 15, 16, 17, 18] rfl
  have hD := hD.sub (ws' := lt_Hi yI yO G 3 (lt_rot Bh) (lt_rot Vh) ++ lt_St yI B' i' a') [19, 20, 21, 22, 23, 24, 25, 26, 27, 28, 29, 30, 31, 32, 33, 34, 35, 36, 37, 38, 39, 40, 41, 42, 43, 44, 45, 46, 47, 48, 49, 50, 51, 52, 53, 54, 55, 56, 57, 58, 59, 60, 61, 62, 63, 64, 65, 66, 67, 68, 69, 70, 71, 72, 73, 74, 75, 76, 77, 78, 79, 80, 81, 82, 83, 84, 85, 86, 87, 88, 89, 90, 91, 92, 93, 94, 95, 96, 0, 1, 2, 3, 4, 5, 6, 7, 8, 9, 10, 11, 12, 13, 14, 15, 16, 17, 18] (by decide) rfl
  refine lv_aload_n hx hb dX2_record_16 rfl (lv_at hl 0 rfl) ?_
  refine va_get (D := D) (ci := 2) (v := .int 3) (C := RX2) (T := TX2) (N := 2) hx hb hts iw_X2_record_2 hown hK hP 0 rfl rfl 1 (by decide) (hts (.fieldLink RX2 18 "LeafTurner$History" "size" "I") (by decide +kernel)) (fun _ h9 => h9) rfl dX2_record_17 ?_
  refine lv_if_lt (tgt := 47) hx hb dX2_record_20 (by decide) (fun c => absurd c (by decide)) (fun _ => ?_)
  refine lv_aload_n hx hb dX2_record_23 rfl (lv_at hl 0 rfl) ?_
  refine va_get (D := D) (ci := 2) (v := .int 3) (C := RX2) (T := TX2) (N := 2) hx hb hts iw_X2_record_2 hown hK hP 0 rfl rfl 1 (by decide) (hts (.fieldLink RX2 18 "LeafTurner$History" "size" "I") (by decide +kernel)) (fun _ h9 => h9) rfl dX2_record_24 ?_
  refine lv_aload_n hx hb dX2_record_27 rfl (lv_at hl 0 rfl) ?_
  refine va_get (D := D) (ci := 2) (v := .ref (G 1)) (C := RX2) (T := TX2) (N := 2) hx hb hts iw_X2_record_2 hown hK hP 0 rfl rfl 0 (by decide) (hts (.fieldLink RX2 11 "LeafTurner$History" "states" "[LLeafTurner$State;") (by decide +kernel)) (fun _ h9 => h9) rfl dX2_record_28 ?_
  refine va_alen (v := 4) hx hb hK hP 1 2 rfl rfl rfl dX2_record_31 ?_
  refine lv_icmp_ge (tgt := 47) hx hb dX2_record_32 (by decide) (fun c => absurd c (by decide)) (fun _ => ?_)
  refine lv_aload_n hx hb dX2_record_35 rfl (lv_at hl 0 rfl) ?_
  refine va_get (D := D) (ci := 2) (v := .ref (G 1)) (C := RX2) (T := TX2) (N := 2) hx hb hts iw_X2_record_2 hown hK hP 0 rfl rfl 0 (by decide) (hts (.fieldLink RX2 11 "LeafTurner$History" "states" "[LLeafTurner$State;") (by decide +kernel)) (fun _ h9 => h9) rfl dX2_record_36 ?_
  refine lv_aload_n hx hb dX2_record_39 rfl (lv_at hl 0 rfl) ?_
  refine va_get (D := D) (ci := 2) (v := .int 3) (C := RX2) (T := TX2) (N := 2) hx hb hts iw_X2_record_2 hown hK hP 0 rfl rfl 1 (by decide) (hts (.fieldLink RX2 18 "LeafTurner$History" "size" "I") (by decide +kernel)) (fun _ h9 => h9) rfl dX2_record_40 ?_
  refine va_aldq hx hb hK hP 1 2 rfl rfl (i := 3) (vp_in_iff.mpr (by decide)) dX2_record_43 ?_
  refine W.eq (g2 := F0 m 44 ls [.ref (((lt_rot Bh) 3) 0)]) rfl ?_
  refine lv_ifnonnull (tgt := 48) hx hb dX2_record_44 (by decide) ?_
  refine lv_aload_n hx hb dX2_record_48 rfl (lv_at hl 0 rfl) ?_
  refine va_get (D := D) (ci := 2) (v := .ref (G 1)) (C := RX2) (T := TX2) (N := 2) hx hb hts iw_X2_record_2 hown hK hP 0 rfl rfl 0 (by decide) (hts (.fieldLink RX2 11 "LeafTurner$History" "states" "[LLeafTurner$State;") (by decide +kernel)) (fun _ h9 => h9) rfl dX2_record_49 ?_
  refine lv_aload_n hx hb dX2_record_52 rfl (lv_at hl 0 rfl) ?_
  refine va_get (D := D) (ci := 2) (v := .int 3) (C := RX2) (T := TX2) (N := 2) hx hb hts iw_X2_record_2 hown hK hP 0 rfl rfl 1 (by decide) (hts (.fieldLink RX2 18 "LeafTurner$History" "size" "I") (by decide +kernel)) (fun _ h9 => h9) rfl dX2_record_53 ?_
  refine va_aldq hx hb hK hP 1 2 rfl rfl (i := 3) (vp_in_iff.mpr (by decide)) dX2_record_56 ?_
  refine W.eq (g2 := F0 m 57 ls [.ref (((lt_rot Bh) 3) 0)]) rfl ?_
  refine lv_aload_n hx hb dX2_record_57 rfl (lv_at hl 1 rfl) ?_
  have hPc := hP.sub (ws' := lt_St yI ((lt_rot Bh) 3) (((lt_rot Vh) 3).1) (((lt_rot Vh) 3).2) ++ lt_St yI B' i' a') [59, 60, 61, 62, 63, 64, 65, 66, 67, 68, 69, 70, 71, 72, 73, 74, 75, 76, 77, 78, 79, 80, 81, 82, 83, 84, 85, 86, 87, 88, 89, 90, 91, 92, 93, 94, 95, 96] rfl
  have hDc := hD.sub (ws' := lt_St yI ((lt_rot Bh) 3) (((lt_rot Vh) 3).1) (((lt_rot Vh) 3).2) ++ lt_St yI B' i' a') [59, 60, 61, 62, 63, 64, 65, 66, 67, 68, 69, 70, 71, 72, 73, 74, 75, 76, 77, 78, 79, 80, 81, 82, 83, 84, 85, 86, 87, 88, 89, 90, 91, 92, 93, 94, 95, 96] (by decide) rfl
  refine lt_cWv0 (wc := lt_St yI ((lt_rot Bh) 3) (((lt_rot Vh) 3).1) (((lt_rot Vh) 3).2) ++ lt_St yI B' i' a') (wr := [(G 0, .inr (2, [.ref (G 1), .int 3])), (G 1, .inl (yO, 4, .inr (.inr (.inr (.inr (fun k => some ((lt_rot Bh) k 0))))))), (((lt_rot Bh) 0) 0, .inr (6, [.ref (((lt_rot Bh) 0) 1), .ref (((lt_rot Bh) 0) 8), .ref (((lt_rot Bh) 0) 17), .int ((((lt_rot Vh) 0).1) 1), .int ((((lt_rot Vh) 0).1) 8), .int ((((lt_rot Vh) 0).1) 4), .int ((((lt_rot Vh) 0).1) 5), .int ((((lt_rot Vh) 0).1) 6), .int ((((lt_rot Vh) 0).1) 7), .int ((((lt_rot Vh) 0).1) 3)])), (((lt_rot Bh) 0) 1, .inr (0, [.ref (((lt_rot Bh) 0) 2), .ref (((lt_rot Bh) 0) 4), .ref (((lt_rot Bh) 0) 6), .int ((((lt_rot Vh) 0).1) 0)])), (((lt_rot Bh) 0) 2, .inr (3, [.ref (((lt_rot Bh) 0) 3)])), (((lt_rot Bh) 0) 3, .inl (yI, 30, .inl ((((lt_rot Vh) 0).2) 0))), (((lt_rot Bh) 0) 4, .inr (3, [.ref (((lt_rot Bh) 0) 5)])), (((lt_rot Bh) 0) 5, .inl (yI, 30, .inl ((((lt_rot Vh) 0).2) 1))), (((lt_rot Bh) 0) 6, .inr (3, [.ref (((lt_rot Bh) 0) 7)])), (((lt_rot Bh) 0) 7, .inl (yI, 60, .inl ((((lt_rot Vh) 0).2) 2))), (((lt_rot Bh) 0) 8, .inr (5, [.ref (((lt_rot Bh) 0) 9), .ref (((lt_rot Bh) 0) 11), .ref (((lt_rot Bh) 0) 13), .ref (((lt_rot Bh) 0) 15), .int ((((lt_rot Vh) 0).1) 2)])), (((lt_rot Bh) 0) 9, .inr (3, [.ref (((lt_rot Bh) 0) 10)])), (((lt_rot Bh) 0) 10, .inl (yI, 80, .inl ((((lt_rot Vh) 0).2) 3))), (((lt_rot Bh) 0) 11, .inr (3, [.ref (((lt_rot Bh) 0) 12)])), (((lt_rot Bh) 0) 12, .inl (yI, 80, .inl ((((lt_rot Vh) 0).2) 4))), (((lt_rot Bh) 0) 13, .inr (3, [.ref (((lt_rot Bh) 0) 14)])), (((lt_rot Bh) 0) 14, .inl (yI, 80, .inl ((((lt_rot Vh) 0).2) 5))), (((lt_rot Bh) 0) 15, .inr (3, [.ref (((lt_rot Bh) 0) 16)])), (((lt_rot Bh) 0) 16, .inl (yI, 80, .inl ((((lt_rot Vh) 0).2) 6))), (((lt_rot Bh) 0) 17, .inr (3, [.ref (((lt_rot Bh) 0) 18)])), (((lt_rot Bh) 0) 18, .inl (yI, 3, .inl ((((lt_rot Vh) 0).2) 7))), (((lt_rot Bh) 1) 0, .inr (6, [.ref (((lt_rot Bh) 1) 1), .ref (((lt_rot Bh) 1) 8), .ref (((lt_rot Bh) 1) 17), .int ((((lt_rot Vh) 1).1) 1), .int ((((lt_rot Vh) 1).1) 8), .int ((((lt_rot Vh) 1).1) 4), .int ((((lt_rot Vh) 1).1) 5), .int ((((lt_rot Vh) 1).1) 6), .int ((((lt_rot Vh) 1).1) 7), .int ((((lt_rot Vh) 1).1) 3)])), (((lt_rot Bh) 1) 1, .inr (0, [.ref (((lt_rot Bh) 1) 2), .ref (((lt_rot Bh) 1) 4), .ref (((lt_rot Bh) 1) 6), .int ((((lt_rot Vh) 1).1) 0)])), (((lt_rot Bh) 1) 2, .inr (3, [.ref (((lt_rot Bh) 1) 3)])), (((lt_rot Bh) 1) 3, .inl (yI, 30, .inl ((((lt_rot Vh) 1).2) 0))), (((lt_rot Bh) 1) 4, .inr (3, [.ref (((lt_rot Bh) 1) 5)])), (((lt_rot Bh) 1) 5, .inl (yI, 30, .inl ((((lt_rot Vh) 1).2) 1))), (((lt_rot Bh) 1) 6, .inr (3, [.ref (((lt_rot Bh) 1) 7)])), (((lt_rot Bh) 1) 7, .inl (yI, 60, .inl ((((lt_rot Vh) 1).2) 2))), (((lt_rot Bh) 1) 8, .inr (5, [.ref (((lt_rot Bh) 1) 9), .ref (((lt_rot Bh) 1) 11), .ref (((lt_rot Bh) 1) 13), .ref (((lt_rot Bh) 1) 15), .int ((((lt_rot Vh) 1).1) 2)])), (((lt_rot Bh) 1) 9, .inr (3, [.ref (((lt_rot Bh) 1) 10)])), (((lt_rot Bh) 1) 10, .inl (yI, 80, .inl ((((lt_rot Vh) 1).2) 3))), (((lt_rot Bh) 1) 11, .inr (3, [.ref (((lt_rot Bh) 1) 12)])), (((lt_rot Bh) 1) 12, .inl (yI, 80, .inl ((((lt_rot Vh) 1).2) 4))), (((lt_rot Bh) 1) 13, .inr (3, [.ref (((lt_rot Bh) 1) 14)])), (((lt_rot Bh) 1) 14, .inl (yI, 80, .inl ((((lt_rot Vh) 1).2) 5))), (((lt_rot Bh) 1) 15, .inr (3, [.ref (((lt_rot Bh) 1) 16)])), (((lt_rot Bh) 1) 16, .inl (yI, 80, .inl ((((lt_rot Vh) 1).2) 6))), (((lt_rot Bh) 1) 17, .inr (3, [.ref (((lt_rot Bh) 1) 18)])), (((lt_rot Bh) 1) 18, .inl (yI, 3, .inl ((((lt_rot Vh) 1).2) 7))), (((lt_rot Bh) 2) 0, .inr (6, [.ref (((lt_rot Bh) 2) 1), .ref (((lt_rot Bh) 2) 8), .ref (((lt_rot Bh) 2) 17), .int ((((lt_rot Vh) 2).1) 1), .int ((((lt_rot Vh) 2).1) 8), .int ((((lt_rot Vh) 2).1) 4), .int ((((lt_rot Vh) 2).1) 5), .int ((((lt_rot Vh) 2).1) 6), .int ((((lt_rot Vh) 2).1) 7), .int ((((lt_rot Vh) 2).1) 3)])), (((lt_rot Bh) 2) 1, .inr (0, [.ref (((lt_rot Bh) 2) 2), .ref (((lt_rot Bh) 2) 4), .ref (((lt_rot Bh) 2) 6), .int ((((lt_rot Vh) 2).1) 0)])), (((lt_rot Bh) 2) 2, .inr (3, [.ref (((lt_rot Bh) 2) 3)])), (((lt_rot Bh) 2) 3, .inl (yI, 30, .inl ((((lt_rot Vh) 2).2) 0))), (((lt_rot Bh) 2) 4, .inr (3, [.ref (((lt_rot Bh) 2) 5)])), (((lt_rot Bh) 2) 5, .inl (yI, 30, .inl ((((lt_rot Vh) 2).2) 1))), (((lt_rot Bh) 2) 6, .inr (3, [.ref (((lt_rot Bh) 2) 7)])), (((lt_rot Bh) 2) 7, .inl (yI, 60, .inl ((((lt_rot Vh) 2).2) 2))), (((lt_rot Bh) 2) 8, .inr (5, [.ref (((lt_rot Bh) 2) 9), .ref (((lt_rot Bh) 2) 11), .ref (((lt_rot Bh) 2) 13), .ref (((lt_rot Bh) 2) 15), .int ((((lt_rot Vh) 2).1) 2)])), (((lt_rot Bh) 2) 9, .inr (3, [.ref (((lt_rot Bh) 2) 10)])), (((lt_rot Bh) 2) 10, .inl (yI, 80, .inl ((((lt_rot Vh) 2).2) 3))), (((lt_rot Bh) 2) 11, .inr (3, [.ref (((lt_rot Bh) 2) 12)])), (((lt_rot Bh) 2) 12, .inl (yI, 80, .inl ((((lt_rot Vh) 2).2) 4))), (((lt_rot Bh) 2) 13, .inr (3, [.ref (((lt_rot Bh) 2) 14)])), (((lt_rot Bh) 2) 14, .inl (yI, 80, .inl ((((lt_rot Vh) 2).2) 5))), (((lt_rot Bh) 2) 15, .inr (3, [.ref (((lt_rot Bh) 2) 16)])), (((lt_rot Bh) 2) 16, .inl (yI, 80, .inl ((((lt_rot Vh) 2).2) 6))), (((lt_rot Bh) 2) 17, .inr (3, [.ref (((lt_rot Bh) 2) 18)])), (((lt_rot Bh) 2) 18, .inl (yI, 3, .inl ((((lt_rot Vh) 2).2) 7)))]) (va_runV (As := [.ref (B' 0)]) (rest := []) ⟨hx, hb, hml, hown, hts⟩ (c_X6_copyFrom l D yI yC yO ((lt_rot Bh) 3) B' (((lt_rot Vh) 3).1) (((lt_rot Vh) 3).2) i' a' _ ) (cwV 1 hts gX2_record_X6_copyFrom rfl rfl rfl (by decide +kernel) ⟨Nat.le_of_ble_eq_true rfl, Nat.le_of_ble_eq_true rfl⟩) (lt_qV hK0 hPc hDc (va_recv hK hPc (ci := 6) (q0 := 0) rfl rfl)) rfl rfl hl.1 rfl (lv_room (Nat.le_of_ble_eq_true rfl)) dX2_record_58 ⟨Nat.zero_le _, Nat.zero_le _⟩) hP hD hS hA [59, 60, 61, 62, 63, 64, 65, 66, 67, 68, 69, 70, 71, 72, 73, 74, 75, 76, 77, 78, 79, 80, 81, 82, 83, 84, 85, 86, 87, 88, 89, 90, 91, 92, 93, 94, 95, 96] [0, 1, 2, 3, 4, 5, 6, 7, 8, 9, 10, 11, 12, 13, 14, 15, 16, 17, 18, 19, 20, 21, 22, 23, 24, 25, 26, 27, 28, 29, 30, 31, 32, 33, 34, 35, 36, 37, 38, 39, 40, 41, 42, 43, 44, 45, 46, 47, 48, 49, 50, 51, 52, 53, 54, 55, 56, 57, 58] rfl rfl (by decide) (by decide) (fun H locs hP hD hS => ?_)
  have hP := hP.sub (ws' := lt_Hi yI yO G 3 (lt_rot Bh) (va_up (lt_rot Vh) 3 (i', a')) ++ lt_St yI B' i' a') [0, 1, 2, 3, 4, 5, 6, 7, 8, 9, 10, 11, 12, 13, 14, 15, 16, 17, 18, 19, 20, 21, 22, 23, 24, 25, 26, 27, 28, 29, 30, 31, 32, 33, 34, 35, 36, 37, 38, 39, 40, 41, 42, 43, 44, 45, 46, 47, 48, 49, 50, 51, 52, 53, 54, 55, 56, 57, 58, 59, 60, 61, 62, 63, 64, 65, 66, 67, 68, 69, 70, 71, 72, 73, 74, 75, 76, 77, 78, 79, 80, 81, 82, 83, 84, 85, 86, 87, 88, 89, 90, 91, 92, 93, 94, 95, 96] rfl
  have hD := hD.sub (ws' := lt_Hi yI yO G 3 (lt_rot Bh) (va_up (lt_rot Vh) 3 (i', a')) ++ lt_St yI B' i' a') [0, 1, 2, 3, 4, 5, 6, 7, 8, 9, 10, 11, 12, 13, 14, 15, 16, 17, 18, 19, 20, 21, 22, 23, 24, 25, 26, 27, 28, 29, 30, 31, 32, 33, 34, 35, 36, 37, 38, 39, 40, 41, 42, 43, 44, 45, 46, 47, 48, 49, 50, 51, 52, 53, 54, 55, 56, 57, 58, 59, 60, 61, 62, 63, 64, 65, 66, 67, 68, 69, 70, 71, 72, 73, 74, 75, 76, 77, 78, 79, 80, 81, 82, 83, 84, 85, 86, 87, 88, 89, 90, 91, 92, 93, 94, 95, 96] (by decide) rfl
  refine lv_aload_n hx hb dX2_record_61 rfl (lv_at hl 0 rfl) ?_
  refine lv_dup hx hb dX2_record_62 rfl ?_
  refine va_get (D := D) (ci := 2) (v := .int 3) (C := RX2) (T := TX2) (N := 2) hx hb hts iw_X2_record_2 hown hK hP 0 rfl rfl 1 (by decide) (hts (.fieldLink RX2 18 "LeafTurner$History" "size" "I") (by decide +kernel)) (fun _ h9 => h9) rfl dX2_record_63 ?_
  refine lv_iconst (v := 1) hx hb dX2_record_66 (by decide) ?_
  refine lv_iadd hx hb dX2_record_67 ?_
  refine lt_top (y := 4) (by decide) ?_
  refine va_put (D := D) (ci := 2) (v := .int 4) (ty := .int) (C := RX2) (T := TX2) (N := 2) hx hb hts iw_X2_record_2 tyX2 tyX2_ok nmX2 hown hK hP hD hS 0 rfl rfl 1 (by decide) (hts (.fieldLink RX2 18 "LeafTurner$History" "size" "I") (by decide +kernel)) (fun _ h9 => h9) rfl (by decide +kernel) rfl rfl (Nat.le_of_ble_eq_true rfl) dX2_record_68 (fun H locs hP hD hS => ?_)
  have hP : va_P D vwCl (lt_Hi yI yO G 4 (lt_rot Bh) (va_up (lt_rot Vh) 3 (i', a')) ++ lt_St yI B' i' a') H := hP
  have hD : va_D A (lt_Hi yI yO G 4 (lt_rot Bh) (va_up (lt_rot Vh) 3 (i', a')) ++ lt_St yI B' i' a') := hD
  have hP : va_P D vwCl (lt_Hi yI yO G (X2_recz 4) (X2_recB 4 Bh) (X2_recV 4 Vh i' a') ++ lt_St yI B' i' a') H := hP
  have hD : va_D A (lt_Hi yI yO G (X2_recz 4) (X2_recB 4 Bh) (X2_recV 4 Vh i' a') ++ lt_St yI B' i' a') := hD
  exact W.vret hx hb hret (fun t ht hW => ⟨⟨(X2_recz 4, X2_recB 4 Bh, X2_recV 4 Vh i' a'), rfl, rfl, by rw [ht]; exact hP, hD⟩, hS.F ht⟩) hS.2.2 dX2_record_71

theorem iw_X2_takeLatestInto_2 : ∀ w ∈ wsX20, w ∈ wsX2_takeLatestInto := by decide +kernel
set_option maxHeartbeats 4000000 in
set_option maxRecDepth 100000 in
theorem c_X2_takeLatestInto_0 (l : Launch) (D : va_G) (yI yC yO : ClassId) (G : Nat → Nat) (B' : Nat → Nat) (Bh : Nat → Nat → Nat) (Vh : Nat → lt_SV) (i' : Nat → Int32) (a' : Nat → Nat → Int32) (sz : Nat) : Met l yX2_takeLatestInto wsX2_takeLatestInto ({ frames := 4, cells := 0, slots := 0, locals := 120 }) (va_Pc [.ref (G 0), .ref (B' 0)] (lt_M D yI yC yO (lt_Hi yI yO G 0 Bh Vh ++ lt_St yI B' i' a') sz)) (lt_Qv D (X2_takeLatestInto 0 Bh Vh i' a') (fun u => lt_Hi yI yO G u.1 Bh Vh ++ lt_St yI B' u.2.1 u.2.2) (va_A (lt_Hi yI yO G 0 Bh Vh ++ lt_St yI B' i' a') sz)) 0 0 (va_A (lt_Hi yI yO G 0 Bh Vh ++ lt_St yI B' i' a') sz) := by
  refine Met.ofW (cc := cX2_takeLatestInto) (maxL := 3) (ret := none) (by decide) rfl ?_
  intro p e s m args below meth c s₁ B0 hml hv
  obtain ⟨rfl, hsz, hP, hK0, hD0⟩ := hv
  have hx := B0.exec
  have hb := B0.bytes
  have hret := B0.returns
  have hts := atoms_spec (ws := wsX2_takeLatestInto) B0.pre
  have hown : s.vm.findClass RX2 = some m.cls := findClass_of_methodNamed B0.named
  have hlocks := B0.notSynchronized
  have hK := hK0.1
  have hN := hK0.2
  subst hsz
  have hD := hD0.self (sz := s.heap.size)
  generalize hAe : va_A (lt_Hi yI yO G 0 Bh Vh ++ lt_St yI B' i' a') s.heap.size = A at hD ⊢
  have hA : ∀ q : Nat, s.heap.size ≤ q → A q := fun q h => by rw [← hAe]; exact Or.inr h
  have hS : va_S A s.heap s.heap [] := va_S.rf
  have hP : va_P D vwCl (lt_Hi yI yO G 0 Bh Vh ++ lt_St yI B' i' a') s.heap := hP
  have hD : va_D A (lt_Hi yI yO G 0 Bh Vh ++ lt_St yI B' i' a') := hD
  have hl := lv_entry ([.ref (G 0), .ref (B' 0)]) (n := 3) (Nat.le_of_ble_eq_true rfl)
  rw [lg_entry_eq]
  generalize (lg_sl ([.ref (G 0), .ref (B' 0)]) ++ List.replicate (3 - (lg_sl ([.ref (G 0), .ref (B' 0)])).length) Slot.unset).toArray = ls at hl ⊢
  have hl : lv_has ls 3 [(0, .ref (G 0)), (1, .ref (B' 0))] := hl
  refine lv_aload_n hx hb dX2_takeLatestInto_0 rfl (lv_at hl 0 rfl) ?_
  refine va_get (D := D) (ci := 2) (v := .int 0) (C := RX2) (T := TX2) (N := 2) hx hb hts iw_X2_takeLatestInto_2 hown hK hP 0 rfl rfl 1 (by decide) (hts (.fieldLink RX2 18 "LeafTurner$History" "size" "I") (by decide +kernel)) (fun _ h9 => h9) rfl dX2_takeLatestInto_1 ?_
  refine lv_iconst (v := 1) hx hb dX2_takeLatestInto_4 (by decide) ?_
  refine lv_isub hx hb dX2_takeLatestInto_5 ?_
  refine lt_top (y := (-1)) (by decide) ?_
  refine lv_istore_n (lv' := [(2, .int (-1)), (0, .ref (G 0)), (1, .ref (B' 0))]) hx hb dX2_takeLatestInto_6 rfl hl (by decide) rfl (fun ls hl => ?_)
  refine lv_iload_n hx hb dX2_takeLatestInto_7 rfl (lv_at hl 0 rfl) ?_
  refine lv_if_lt (tgt := 29) hx hb dX2_takeLatestInto_8 (by decide) (fun _ => ?_) (fun c => absurd c (by decide))
  have hP : va_P D vwCl (lt_Hi yI yO G (X2_tlz 0) Bh Vh ++ lt_St yI B' ((X2_tls 0 Vh i' a').1) ((X2_tls 0 Vh i' a').2)) s.heap := hP
  have hD : va_D A (lt_Hi yI yO G (X2_tlz 0) Bh Vh ++ lt_St yI B' ((X2_tls 0 Vh i' a').1) ((X2_tls 0 Vh i' a').2)) := hD
  exact W.vret hx hb hret (fun t ht hW => ⟨⟨(X2_tlz 0, (X2_tls 0 Vh i' a').1, (X2_tls 0 Vh i' a').2), rfl, rfl, by rw [ht]; exact hP, hD⟩, hS.F ht⟩) hS.2.2 dX2_takeLatestInto_29

set_option maxHeartbeats 4000000 in
set_option maxRecDepth 100000 in
theorem c_X2_takeLatestInto_1 (l : Launch) (D : va_G) (yI yC yO : ClassId) (G : Nat → Nat) (B' : Nat → Nat) (Bh : Nat → Nat → Nat) (Vh : Nat → lt_SV) (i' : Nat → Int32) (a' : Nat → Nat → Int32) (sz : Nat) : Met l yX2_takeLatestInto wsX2_takeLatestInto ({ frames := 4, cells := 0, slots := 0, locals := 120 }) (va_Pc [.ref (G 0), .ref (B' 0)] (lt_M D yI yC yO (lt_Hi yI yO G 1 Bh Vh ++ lt_St yI B' i' a') sz)) (lt_Qv D (X2_takeLatestInto 1 Bh Vh i' a') (fun u => lt_Hi yI yO G u.1 Bh Vh ++ lt_St yI B' u.2.1 u.2.2) (va_A (lt_Hi yI yO G 1 Bh Vh ++ lt_St yI B' i' a') sz)) 0 0 (va_A (lt_Hi yI yO G 1 Bh Vh ++ lt_St yI B' i' a') sz) := by
  refine Met.ofW (cc := cX2_takeLatestInto) (maxL := 3) (ret := none) (by decide) rfl ?_
  intro p e s m args below meth c s₁ B0 hml hv
  obtain ⟨rfl, hsz, hP, hK0, hD0⟩ := hv
  have hx := B0.exec
  have hb := B0.bytes
  have hret := B0.returns
  have hts := atoms_spec (ws := wsX2_takeLatestInto) B0.pre
  have hown : s.vm.findClass RX2 = some m.cls := findClass_of_methodNamed B0.named
  have hlocks := B0.notSynchronized
  have hK := hK0.1
  have hN := hK0.2
  subst hsz
  have hD := hD0.self (sz := s.heap.size)
  generalize hAe : va_A (lt_Hi yI yO G 1 Bh Vh ++ lt_St yI B' i' a') s.heap.size = A at hD ⊢
  have hA : ∀ q : Nat, s.heap.size ≤ q → A q := fun q h => by rw [← hAe]; exact Or.inr h
  have hS : va_S A s.heap s.heap [] := va_S.rf
  have hP : va_P D vwCl (lt_Hi yI yO G 1 Bh Vh ++ lt_St yI B' i' a') s.heap := hP
  have hD : va_D A (lt_Hi yI yO G 1 Bh Vh ++ lt_St yI B' i' a') := hD
  have hl := lv_entry ([.ref (G 0), .ref (B' 0)]) (n := 3) (Nat.le_of_ble_eq_true rfl)
  rw [lg_entry_eq]
  generalize (lg_sl ([.ref (G 0), .ref (B' 0)]) ++ List.replicate (3 - (lg_sl ([.ref (G 0), .ref (B' 0)])).length) Slot.unset).toArray = ls at hl ⊢
  have hl : lv_has ls 3 [(0, .ref (G 0)), (1, .ref (B' 0))] := hl
  refine lv_aload_n hx hb dX2_takeLatestInto_0 rfl (lv_at hl 0 rfl) ?_
  refine va_get (D := D) (ci := 2) (v := .int 1) (C := RX2) (T := TX2) (N := 2) hx hb hts iw_X2_takeLatestInto_2 hown hK hP 0 rfl rfl 1 (by decide) (hts (.fieldLink RX2 18 "LeafTurner$History" "size" "I") (by decide +kernel)) (fun _ h9 => h9) rfl dX2_takeLatestInto_1 ?_
  refine lv_iconst (v := 1) hx hb dX2_takeLatestInto_4 (by decide) ?_
  refine lv_isub hx hb dX2_takeLatestInto_5 ?_
  refine lt_top (y := 0) (by decide) ?_
  refine lv_istore_n (lv' := [(2, .int 0), (0, .ref (G 0)), (1, .ref (B' 0))]) hx hb dX2_takeLatestInto_6 rfl hl (by decide) rfl (fun ls hl => ?_)
  refine lv_iload_n hx hb dX2_takeLatestInto_7 rfl (lv_at hl 0 rfl) ?_
  refine lv_if_lt (tgt := 29) hx hb dX2_takeLatestInto_8 (by decide) (fun c => absurd c (by decide)) (fun _ => ?_)
  refine lv_iload_n hx hb dX2_takeLatestInto_11 rfl (lv_at hl 0 rfl) ?_
  refine lv_aload_n hx hb dX2_takeLatestInto_12 rfl (lv_at hl 1 rfl) ?_
  refine va_get (D := D) (ci := 2) (v := .ref (G 1)) (C := RX2) (T := TX2) (N := 2) hx hb hts iw_X2_takeLatestInto_2 hown hK hP 0 rfl rfl 0 (by decide) (hts (.fieldLink RX2 11 "LeafTurner$History" "states" "[LLeafTurner$State;") (by decide +kernel)) (fun _ h9 => h9) rfl dX2_takeLatestInto_13 ?_
  refine va_alen (v := 4) hx hb hK hP 1 2 rfl rfl rfl dX2_takeLatestInto_16 ?_
  refine lv_icmp_ge (tgt := 29) hx hb dX2_takeLatestInto_17 (by decide) (fun c => absurd c (by decide)) (fun _ => ?_)
  refine lv_aload_n hx hb dX2_takeLatestInto_20 rfl (lv_at hl 1 rfl) ?_
  refine va_get (D := D) (ci := 2) (v := .ref (G 1)) (C := RX2) (T := TX2) (N := 2) hx hb hts iw_X2_takeLatestInto_2 hown hK hP 0 rfl rfl 0 (by decide) (hts (.fieldLink RX2 11 "LeafTurner$History" "states" "[LLeafTurner$State;") (by decide +kernel)) (fun _ h9 => h9) rfl dX2_takeLatestInto_21 ?_
  refine lv_iload_n hx hb dX2_takeLatestInto_24 rfl (lv_at hl 0 rfl) ?_
  refine va_aldq hx hb hK hP 1 2 rfl rfl (i := 0) (vp_in_iff.mpr (by decide)) dX2_takeLatestInto_25 ?_
  refine W.eq (g2 := F0 m 26 ls [.ref ((Bh 0) 0)]) rfl ?_
  refine lv_ifnonnull (tgt := 30) hx hb dX2_takeLatestInto_26 (by decide) ?_
  refine lv_aload_n hx hb dX2_takeLatestInto_30 rfl (lv_at hl 2 rfl) ?_
  refine lv_aload_n hx hb dX2_takeLatestInto_31 rfl (lv_at hl 1 rfl) ?_
  refine va_get (D := D) (ci := 2) (v := .ref (G 1)) (C := RX2) (T := TX2) (N := 2) hx hb hts iw_X2_takeLatestInto_2 hown hK hP 0 rfl rfl 0 (by decide) (hts (.fieldLink RX2 11 "LeafTurner$History" "states" "[LLeafTurner$State;") (by decide +kernel)) (fun _ h9 => h9) rfl dX2_takeLatestInto_32 ?_
  refine lv_iload_n hx hb dX2_takeLatestInto_35 rfl (lv_at hl 0 rfl) ?_
  refine va_aldq hx hb hK hP 1 2 rfl rfl (i := 0) (vp_in_iff.mpr (by decide)) dX2_takeLatestInto_36 ?_
  refine W.eq (g2 := F0 m 37 ls [.ref ((Bh 0) 0), .ref (B' 0)]) rfl ?_
  have hPc := hP.sub (ws' := lt_St yI B' i' a' ++ lt_St yI (Bh 0) ((Vh 0).1) ((Vh 0).2)) [78, 79, 80, 81, 82, 83, 84, 85, 86, 87, 88, 89, 90, 91, 92, 93, 94, 95, 96, 2, 3, 4, 5, 6, 7, 8, 9, 10, 11, 12, 13, 14, 15, 16, 17, 18, 19, 20] rfl
  have hDc := hD.sub (ws' := lt_St yI B' i' a' ++ lt_St yI (Bh 0) ((Vh 0).1) ((Vh 0).2)) [78, 79, 80, 81, 82, 83, 84, 85, 86, 87, 88, 89, 90, 91, 92, 93, 94, 95, 96, 2, 3, 4, 5, 6, 7, 8, 9, 10, 11, 12, 13, 14, 15, 16, 17, 18, 19, 20] (by decide) rfl
  refine lt_cWv0 (wc := lt_St yI B' i' a' ++ lt_St yI (Bh 0) ((Vh 0).1) ((Vh 0).2)) (wr := [(G 0, .inr (2, [.ref (G 1), .int 1])), (G 1, .inl (yO, 4, .inr (.inr (.inr (.inr (fun k => some (Bh k 0))))))), ((Bh 1) 0, .inr (6, [.ref ((Bh 1) 1), .ref ((Bh 1) 8), .ref ((Bh 1) 17), .int (((Vh 1).1) 1), .int (((Vh 1).1) 8), .int (((Vh 1).1) 4), .int (((Vh 1).1) 5), .int (((Vh 1).1) 6), .int (((Vh 1).1) 7), .int (((Vh 1).1) 3)])), ((Bh 1) 1, .inr (0, [.ref ((Bh 1) 2), .ref ((Bh 1) 4), .ref ((Bh 1) 6), .int (((Vh 1).1) 0)])), ((Bh 1) 2, .inr (3, [.ref ((Bh 1) 3)])), ((Bh 1) 3, .inl (yI, 30, .inl (((Vh 1).2) 0))), ((Bh 1) 4, .inr (3, [.ref ((Bh 1) 5)])), ((Bh 1) 5, .inl (yI, 30, .inl (((Vh 1).2) 1))), ((Bh 1) 6, .inr (3, [.ref ((Bh 1) 7)])), ((Bh 1) 7, .inl (yI, 60, .inl (((Vh 1).2) 2))), ((Bh 1) 8, .inr (5, [.ref ((Bh 1) 9), .ref ((Bh 1) 11), .ref ((Bh 1) 13), .ref ((Bh 1) 15), .int (((Vh 1).1) 2)])), ((Bh 1) 9, .inr (3, [.ref ((Bh 1) 10)])), ((Bh 1) 10, .inl (yI, 80, .inl (((Vh 1).2) 3))), ((Bh 1) 11, .inr (3, [.ref ((Bh 1) 12)])), ((Bh 1) 12, .inl (yI, 80, .inl (((Vh 1).2) 4))), ((Bh 1) 13, .inr (3, [.ref ((Bh 1) 14)])), ((Bh 1) 14, .inl (yI, 80, .inl (((Vh 1).2) 5))), ((Bh 1) 15, .inr (3, [.ref ((Bh 1) 16)])), ((Bh 1) 16, .inl (yI, 80, .inl (((Vh 1).2) 6))), ((Bh 1) 17, .inr (3, [.ref ((Bh 1) 18)])), ((Bh 1) 18, .inl (yI, 3, .inl (((Vh 1).2) 7))), ((Bh 2) 0, .inr (6, [.ref ((Bh 2) 1), .ref ((Bh 2) 8), .ref ((Bh 2) 17), .int (((Vh 2).1) 1), .int (((Vh 2).1) 8), .int (((Vh 2).1) 4), .int (((Vh 2).1) 5), .int (((Vh 2).1) 6), .int (((Vh 2).1) 7), .int (((Vh 2).1) 3)])), ((Bh 2) 1, .inr (0, [.ref ((Bh 2) 2), .ref ((Bh 2) 4), .ref ((Bh 2) 6), .int (((Vh 2).1) 0)])), ((Bh 2) 2, .inr (3, [.ref ((Bh 2) 3)])), ((Bh 2) 3, .inl (yI, 30, .inl (((Vh 2).2) 0))), ((Bh 2) 4, .inr (3, [.ref ((Bh 2) 5)])), ((Bh 2) 5, .inl (yI, 30, .inl (((Vh 2).2) 1))), ((Bh 2) 6, .inr (3, [.ref ((Bh 2) 7)])), ((Bh 2) 7, .inl (yI, 60, .inl (((Vh 2).2) 2))), ((Bh 2) 8, .inr (5, [.ref ((Bh 2) 9), .ref ((Bh 2) 11), .ref ((Bh 2) 13), .ref ((Bh 2) 15), .int (((Vh 2).1) 2)])), ((Bh 2) 9, .inr (3, [.ref ((Bh 2) 10)])), ((Bh 2) 10, .inl (yI, 80, .inl (((Vh 2).2) 3))), ((Bh 2) 11, .inr (3, [.ref ((Bh 2) 12)])), ((Bh 2) 12, .inl (yI, 80, .inl (((Vh 2).2) 4))), ((Bh 2) 13, .inr (3, [.ref ((Bh 2) 14)])), ((Bh 2) 14, .inl (yI, 80, .inl (((Vh 2).2) 5))), ((Bh 2) 15, .inr (3, [.ref ((Bh 2) 16)])), ((Bh 2) 16, .inl (yI, 80, .inl (((Vh 2).2) 6))), ((Bh 2) 17, .inr (3, [.ref ((Bh 2) 18)])), ((Bh 2) 18, .inl (yI, 3, .inl (((Vh 2).2) 7))), ((Bh 3) 0, .inr (6, [.ref ((Bh 3) 1), .ref ((Bh 3) 8), .ref ((Bh 3) 17), .int (((Vh 3).1) 1), .int (((Vh 3).1) 8), .int (((Vh 3).1) 4), .int (((Vh 3).1) 5), .int (((Vh 3).1) 6), .int (((Vh 3).1) 7), .int (((Vh 3).1) 3)])), ((Bh 3) 1, .inr (0, [.ref ((Bh 3) 2), .ref ((Bh 3) 4), .ref ((Bh 3) 6), .int (((Vh 3).1) 0)])), ((Bh 3) 2, .inr (3, [.ref ((Bh 3) 3)])), ((Bh 3) 3, .inl (yI, 30, .inl (((Vh 3).2) 0))), ((Bh 3) 4, .inr (3, [.ref ((Bh 3) 5)])), ((Bh 3) 5, .inl (yI, 30, .inl (((Vh 3).2) 1))), ((Bh 3) 6, .inr (3, [.ref ((Bh 3) 7)])), ((Bh 3) 7, .inl (yI, 60, .inl (((Vh 3).2) 2))), ((Bh 3) 8, .inr (5, [.ref ((Bh 3) 9), .ref ((Bh 3) 11), .ref ((Bh 3) 13), .ref ((Bh 3) 15), .int (((Vh 3).1) 2)])), ((Bh 3) 9, .inr (3, [.ref ((Bh 3) 10)])), ((Bh 3) 10, .inl (yI, 80, .inl (((Vh 3).2) 3))), ((Bh 3) 11, .inr (3, [.ref ((Bh 3) 12)])), ((Bh 3) 12, .inl (yI, 80, .inl (((Vh 3).2) 4))), ((Bh 3) 13, .inr (3, [.ref ((Bh 3) 14)])), ((Bh 3) 14, .inl (yI, 80, .inl (((Vh 3).2) 5))), ((Bh 3) 15, .inr (3, [.ref ((Bh 3) 16)])), ((Bh 3) 16, .inl (yI, 80, .inl (((Vh 3).2) 6))), ((Bh 3) 17, .inr (3, [.ref ((Bh 3) 18)])), ((Bh 3) 18, .inl (yI, 3, .inl (((Vh 3).2) 7)))]) (va_runV (As := [.ref ((Bh 0) 0)]) (rest := []) ⟨hx, hb, hml, hown, hts⟩ (c_X6_copyFrom l D yI yC yO B' (Bh 0) i' a' ((Vh 0).1) ((Vh 0).2) _ ) (cwV 1 hts gX2_takeLatestInto_X6_copyFrom rfl rfl rfl (by decide +kernel) ⟨Nat.le_of_ble_eq_true rfl, Nat.le_of_ble_eq_true rfl⟩) (lt_qV hK0 hPc hDc (va_recv hK hPc (ci := 6) (q0 := 0) rfl rfl)) rfl rfl hl.1 rfl (lv_room (Nat.le_of_ble_eq_true rfl)) dX2_takeLatestInto_37 ⟨Nat.zero_le _, Nat.zero_le _⟩) hP hD hS hA [78, 79, 80, 81, 82, 83, 84, 85, 86, 87, 88, 89, 90, 91, 92, 93, 94, 95, 96, 2, 3, 4, 5, 6, 7, 8, 9, 10, 11, 12, 13, 14, 15, 16, 17, 18, 19, 20] [0, 1, 21, 22, 23, 24, 25, 26, 27, 28, 29, 30, 31, 32, 33, 34, 35, 36, 37, 38, 39, 40, 41, 42, 43, 44, 45, 46, 47, 48, 49, 50, 51, 52, 53, 54, 55, 56, 57, 58, 59, 60, 61, 62, 63, 64, 65, 66, 67, 68, 69, 70, 71, 72, 73, 74, 75, 76, 77] rfl rfl (by decide) (by decide) (fun H locs hP hD hS => ?_)
  have hP := hP.sub (ws' := lt_Hi yI yO G 1 Bh Vh ++ lt_St yI B' ((Vh 0).1) ((Vh 0).2)) [0, 1, 78, 79, 80, 81, 82, 83, 84, 85, 86, 87, 88, 89, 90, 91, 92, 93, 94, 95, 96, 2, 3, 4, 5, 6, 7, 8, 9, 10, 11, 12, 13, 14, 15, 16, 17, 18, 19, 20, 21, 22, 23, 24, 25, 26, 27, 28, 29, 30, 31, 32, 33, 34, 35, 36, 37, 38, 39, 40, 41, 42, 43, 44, 45, 46, 47, 48, 49, 50, 51, 52, 53, 54, 55, 56, 57, 58, 59, 60, 61, 62, 63, 64, 65, 66, 67, 68, 69, 70, 71, 72, 73, 74, 75, 76, 77] rfl
  have hD := hD.sub (ws' := lt_Hi yI yO G 1 Bh Vh ++ lt_St yI B' ((Vh 0).1) ((Vh 0).2)) [0, 1, 78, 79, 80, 81, 82, 83, 84, 85, 86, 87, 88, 89, 90, 91, 92, 93, 94, 95, 96, 2, 3, 4, 5, 6, 7, 8, 9, 10, 11, 12, 13, 14, 15, 16, 17, 18, 19, 20, 21, 22, 23, 24, 25, 26, 27, 28, 29, 30, 31, 32, 33, 34, 35, 36, 37, 38, 39, 40, 41, 42, 43, 44, 45, 46, 47, 48, 49, 50, 51, 52, 53, 54, 55, 56, 57, 58, 59, 60, 61, 62, 63, 64, 65, 66, 67, 68, 69, 70, 71, 72, 73, 74, 75, 76, 77] (by decide) rfl
  refine lv_aload_n hx hb dX2_takeLatestInto_40 rfl (lv_at hl 1 rfl) ?_
  refine lv_iload_n hx hb dX2_takeLatestInto_41 rfl (lv_at hl 0 rfl) ?_
  refine va_put (D := D) (ci := 2) (v := .int 0) (ty := .int) (C := RX2) (T := TX2) (N := 2) hx hb hts iw_X2_takeLatestInto_2 tyX2 tyX2_ok nmX2 hown hK hP hD hS 0 rfl rfl 1 (by decide) (hts (.fieldLink RX2 18 "LeafTurner$History" "size" "I") (by decide +kernel)) (fun _ h9 => h9) rfl (by decide +kernel) rfl rfl (Nat.le_of_ble_eq_true rfl) dX2_takeLatestInto_42 (fun H locs hP hD hS => ?_)
  have hP : va_P D vwCl (lt_Hi yI yO G 0 Bh Vh ++ lt_St yI B' ((Vh 0).1) ((Vh 0).2)) H := hP
  have hD : va_D A (lt_Hi yI yO G 0 Bh Vh ++ lt_St yI B' ((Vh 0).1) ((Vh 0).2)) := hD
  have hP : va_P D vwCl (lt_Hi yI yO G (X2_tlz 1) Bh Vh ++ lt_St yI B' ((X2_tls 1 Vh i' a').1) ((X2_tls 1 Vh i' a').2)) H := hP
  have hD : va_D A (lt_Hi yI yO G (X2_tlz 1) Bh Vh ++ lt_St yI B' ((X2_tls 1 Vh i' a').1) ((X2_tls 1 Vh i' a').2)) := hD
  exact W.vret hx hb hret (fun t ht hW => ⟨⟨(X2_tlz 1, (X2_tls 1 Vh i' a').1, (X2_tls 1 Vh i' a').2), rfl, rfl, by rw [ht]; exact hP, hD⟩, hS.F ht⟩) hS.2.2 dX2_takeLatestInto_45

set_option maxHeartbeats 4000000 in
set_option maxRecDepth 100000 in
theorem c_X2_takeLatestInto_2 (l : Launch) (D : va_G) (yI yC yO : ClassId) (G : Nat → Nat) (B' : Nat → Nat) (Bh : Nat → Nat → Nat) (Vh : Nat → lt_SV) (i' : Nat → Int32) (a' : Nat → Nat → Int32) (sz : Nat) : Met l yX2_takeLatestInto wsX2_takeLatestInto ({ frames := 4, cells := 0, slots := 0, locals := 120 }) (va_Pc [.ref (G 0), .ref (B' 0)] (lt_M D yI yC yO (lt_Hi yI yO G 2 Bh Vh ++ lt_St yI B' i' a') sz)) (lt_Qv D (X2_takeLatestInto 2 Bh Vh i' a') (fun u => lt_Hi yI yO G u.1 Bh Vh ++ lt_St yI B' u.2.1 u.2.2) (va_A (lt_Hi yI yO G 2 Bh Vh ++ lt_St yI B' i' a') sz)) 0 0 (va_A (lt_Hi yI yO G 2 Bh Vh ++ lt_St yI B' i' a') sz) := by
  refine Met.ofW (cc := cX2_takeLatestInto) (maxL := 3) (ret := none) (by decide) rfl ?_
  intro p e s m args below meth c s₁ B0 hml hv
  obtain ⟨rfl, hsz, hP, hK0, hD0⟩ := hv
  have hx := B0.exec
  have hb := B0.bytes
  have hret := B0.returns
  have hts := atoms_spec (ws := wsX2_takeLatestInto) B0.pre
  have hown : s.vm.findClass RX2 = some m.cls := findClass_of_methodNamed B0.named
  have hlocks := B0.notSynchronized
  have hK := hK0.1
  have hN := hK0.2
  subst hsz
  have hD := hD0.self (sz := s.heap.size)
  generalize hAe : va_A (lt_Hi yI yO G 2 Bh Vh ++ lt_St yI B' i' a') s.heap.size = A at hD ⊢
  have hA : ∀ q : Nat, s.heap.size ≤ q → A q := fun q h => by rw [← hAe]; exact Or.inr h
  have hS : va_S A s.heap s.heap [] := va_S.rf
  have hP : va_P D vwCl (lt_Hi yI yO G 2 Bh Vh ++ lt_St yI B' i' a') s.heap := hP
  have hD : va_D A (lt_Hi yI yO G 2 Bh Vh ++ lt_St yI B' i' a') := hD
  have hl := lv_entry ([.ref (G 0), .ref (B' 0)]) (n := 3) (Nat.le_of_ble_eq_true rfl)
  rw [lg_entry_eq]
  generalize (lg_sl ([.ref (G 0), .ref (B' 0)]) ++ List.replicate (3 - (lg_sl ([.ref (G 0), .ref (B' 0)])).length) Slot.unset).toArray = ls at hl ⊢
  have hl : lv_has ls 3 [(0, .ref (G 0)), (1, .ref (B' 0))] := hl
  refine lv_aload_n hx hb dX2_takeLatestInto_0 rfl (lv_at hl 0 rfl) ?_
  refine va_get (D := D) (ci := 2) (v := .int 2) (C := RX2) (T := TX2) (N := 2) hx hb hts iw_X2_takeLatestInto_2 hown hK hP 0 rfl rfl 1 (by decide) (hts (.fieldLink RX2 18 "LeafTurner$History" "size" "I") (by decide +kernel)) (fun _ h9 => h9) rfl dX2_takeLatestInto_1 ?_
  refine lv_iconst (v := 1) hx hb dX2_takeLatestInto_4 (by decide) ?_
  refine lv_isub hx hb dX2_takeLatestInto_5 ?_
  refine lt_top (y := 1) (by decide) ?_
  refine lv_istore_n (lv' := [(2, .int 1), (0, .ref (G 0)), (1, .ref (B' 0))]) hx hb dX2_takeLatestInto_6 rfl hl (by decide) rfl (fun ls hl => ?_)
  refine lv_iload_n hx hb dX2_takeLatestInto_7 rfl (lv_at hl 0 rfl) ?_
  refine lv_if_lt (tgt := 29) hx hb dX2_takeLatestInto_8 (by decide) (fun c => absurd c (by decide)) (fun _ => ?_)
  refine lv_iload_n hx hb dX2_takeLatestInto_11 rfl (lv_at hl 0 rfl) ?_
  refine lv_aload_n hx hb dX2_takeLatestInto_12 rfl (lv_at hl 1 rfl) ?_
  refine va_get (D := D) (ci := 2) (v := .ref (G 1)) (C := RX2) (T := TX2) (N := 2) hx hb hts iw_X2_takeLatestInto_2 hown hK hP 0 rfl rfl 0 (by decide) (hts (.fieldLink RX2 11 "LeafTurner$History" "states" "[LLeafTurner$State;") (by decide +kernel)) (fun _ h9 => h9) rfl dX2_takeLatestInto_13 ?_
  refine va_alen (v := 4) hx hb hK hP 1 2 rfl rfl rfl dX2_takeLatestInto_16 ?_
  refine lv_icmp_ge (tgt := 29) hx hb dX2_takeLatestInto_17 (by decide) (fun c => absurd c (by decide)) (fun _ => ?_)
  refine lv_aload_n hx hb dX2_takeLatestInto_20 rfl (lv_at hl 1 rfl) ?_
  refine va_get (D := D) (ci := 2) (v := .ref (G 1)) (C := RX2) (T := TX2) (N := 2) hx hb hts iw_X2_takeLatestInto_2 hown hK hP 0 rfl rfl 0 (by decide) (hts (.fieldLink RX2 11 "LeafTurner$History" "states" "[LLeafTurner$State;") (by decide +kernel)) (fun _ h9 => h9) rfl dX2_takeLatestInto_21 ?_
  refine lv_iload_n hx hb dX2_takeLatestInto_24 rfl (lv_at hl 0 rfl) ?_
  refine va_aldq hx hb hK hP 1 2 rfl rfl (i := 1) (vp_in_iff.mpr (by decide)) dX2_takeLatestInto_25 ?_
  refine W.eq (g2 := F0 m 26 ls [.ref ((Bh 1) 0)]) rfl ?_
  refine lv_ifnonnull (tgt := 30) hx hb dX2_takeLatestInto_26 (by decide) ?_
  refine lv_aload_n hx hb dX2_takeLatestInto_30 rfl (lv_at hl 2 rfl) ?_
  refine lv_aload_n hx hb dX2_takeLatestInto_31 rfl (lv_at hl 1 rfl) ?_
  refine va_get (D := D) (ci := 2) (v := .ref (G 1)) (C := RX2) (T := TX2) (N := 2) hx hb hts iw_X2_takeLatestInto_2 hown hK hP 0 rfl rfl 0 (by decide) (hts (.fieldLink RX2 11 "LeafTurner$History" "states" "[LLeafTurner$State;") (by decide +kernel)) (fun _ h9 => h9) rfl dX2_takeLatestInto_32 ?_
  refine lv_iload_n hx hb dX2_takeLatestInto_35 rfl (lv_at hl 0 rfl) ?_
  refine va_aldq hx hb hK hP 1 2 rfl rfl (i := 1) (vp_in_iff.mpr (by decide)) dX2_takeLatestInto_36 ?_
  refine W.eq (g2 := F0 m 37 ls [.ref ((Bh 1) 0), .ref (B' 0)]) rfl ?_
  have hPc := hP.sub (ws' := lt_St yI B' i' a' ++ lt_St yI (Bh 1) ((Vh 1).1) ((Vh 1).2)) [78, 79, 80, 81, 82, 83, 84, 85, 86, 87, 88, 89, 90, 91, 92, 93, 94, 95, 96, 21, 22, 23, 24, 25, 26, 27, 28, 29, 30, 31, 32, 33, 34, 35, 36, 37, 38, 39] rfl
  have hDc := hD.sub (ws' := lt_St yI B' i' a' ++ lt_St yI (Bh 1) ((Vh 1).1) ((Vh 1).2)) [78, 79, 80, 81, 82, 83, 84, 85, 86, 87, 88, 89, 90, 91, 92, 93, 94, 95, 96, 21, 22, 23, 24, 25, 26, 27, 28, 29, 30, 31, 32, 33, 34, 35, 36, 37, 38, 39] (by decide) rfl
  refine lt_cWv0 (wc := lt_St yI B' i' a' ++ lt_St yI (Bh 1) ((Vh 1).1) ((Vh 1).2)) (wr := [(G 0, .inr (2, [.ref (G 1), .int 2])), (G 1, .inl (yO, 4, .inr (.inr (.inr (.inr (fun k => some (Bh k 0))))))), ((Bh 0) 0, .inr (6, [.ref ((Bh 0) 1), .ref ((Bh 0) 8), .ref ((Bh 0) 17), .int (((Vh 0).1) 1), .int (((Vh 0).1) 8), .int (((Vh 0).1) 4), .int (((Vh 0).1) 5), .int (((Vh 0).1) 6), .int (((Vh 0).1) 7), .int (((Vh 0).1) 3)])), ((Bh 0) 1, .inr (0, [.ref ((Bh 0) 2), .ref ((Bh 0) 4), .ref ((Bh 0) 6), .int (((Vh 0).1) 0)])), ((Bh 0) 2, .inr (3, [.ref ((Bh 0) 3)])), ((Bh 0) 3, .inl (yI, 30, .inl (((Vh 0).2) 0))), ((Bh 0) 4, .inr (3, [.ref ((Bh 0) 5)])), ((Bh 0) 5, .inl (yI, 30, .inl (((Vh 0).2) 1))), ((Bh 0) 6, .inr (3, [.ref ((Bh 0) 7)])), ((Bh 0) 7, .inl (yI, 60, .inl (((Vh 0).2) 2))), ((Bh 0) 8, .inr (5, [.ref ((Bh 0) 9), .ref ((Bh 0) 11), .ref ((Bh 0) 13), .ref ((Bh 0) 15), .int (((Vh 0).1) 2)])), ((Bh 0) 9, .inr (3, [.ref ((Bh 0) 10)])), ((Bh 0) 10, .inl (yI, 80, .inl (((Vh 0).2) 3))), ((Bh 0) 11, .inr (3, [.ref ((Bh 0) 12)])), ((Bh 0) 12, .inl (yI, 80, .inl (((Vh 0).2) 4))), ((Bh 0) 13, .inr (3, [.ref ((Bh 0) 14)])), ((Bh 0) 14, .inl (yI, 80, .inl (((Vh 0).2) 5))), ((Bh 0) 15, .inr (3, [.ref ((Bh 0) 16)])), ((Bh 0) 16, .inl (yI, 80, .inl (((Vh 0).2) 6))), ((Bh 0) 17, .inr (3, [.ref ((Bh 0) 18)])), ((Bh 0) 18, .inl (yI, 3, .inl (((Vh 0).2) 7))), ((Bh 2) 0, .inr (6, [.ref ((Bh 2) 1), .ref ((Bh 2) 8), .ref ((Bh 2) 17), .int (((Vh 2).1) 1), .int (((Vh 2).1) 8), .int (((Vh 2).1) 4), .int (((Vh 2).1) 5), .int (((Vh 2).1) 6), .int (((Vh 2).1) 7), .int (((Vh 2).1) 3)])), ((Bh 2) 1, .inr (0, [.ref ((Bh 2) 2), .ref ((Bh 2) 4), .ref ((Bh 2) 6), .int (((Vh 2).1) 0)])), ((Bh 2) 2, .inr (3, [.ref ((Bh 2) 3)])), ((Bh 2) 3, .inl (yI, 30, .inl (((Vh 2).2) 0))), ((Bh 2) 4, .inr (3, [.ref ((Bh 2) 5)])), ((Bh 2) 5, .inl (yI, 30, .inl (((Vh 2).2) 1))), ((Bh 2) 6, .inr (3, [.ref ((Bh 2) 7)])), ((Bh 2) 7, .inl (yI, 60, .inl (((Vh 2).2) 2))), ((Bh 2) 8, .inr (5, [.ref ((Bh 2) 9), .ref ((Bh 2) 11), .ref ((Bh 2) 13), .ref ((Bh 2) 15), .int (((Vh 2).1) 2)])), ((Bh 2) 9, .inr (3, [.ref ((Bh 2) 10)])), ((Bh 2) 10, .inl (yI, 80, .inl (((Vh 2).2) 3))), ((Bh 2) 11, .inr (3, [.ref ((Bh 2) 12)])), ((Bh 2) 12, .inl (yI, 80, .inl (((Vh 2).2) 4))), ((Bh 2) 13, .inr (3, [.ref ((Bh 2) 14)])), ((Bh 2) 14, .inl (yI, 80, .inl (((Vh 2).2) 5))), ((Bh 2) 15, .inr (3, [.ref ((Bh 2) 16)])), ((Bh 2) 16, .inl (yI, 80, .inl (((Vh 2).2) 6))), ((Bh 2) 17, .inr (3, [.ref ((Bh 2) 18)])), ((Bh 2) 18, .inl (yI, 3, .inl (((Vh 2).2) 7))), ((Bh 3) 0, .inr (6, [.ref ((Bh 3) 1), .ref ((Bh 3) 8), .ref ((Bh 3) 17), .int (((Vh 3).1) 1), .int (((Vh 3).1) 8), .int (((Vh 3).1) 4), .int (((Vh 3).1) 5), .int (((Vh 3).1) 6), .int (((Vh 3).1) 7), .int (((Vh 3).1) 3)])), ((Bh 3) 1, .inr (0, [.ref ((Bh 3) 2), .ref ((Bh 3) 4), .ref ((Bh 3) 6), .int (((Vh 3).1) 0)])), ((Bh 3) 2, .inr (3, [.ref ((Bh 3) 3)])), ((Bh 3) 3, .inl (yI, 30, .inl (((Vh 3).2) 0))), ((Bh 3) 4, .inr (3, [.ref ((Bh 3) 5)])), ((Bh 3) 5, .inl (yI, 30, .inl (((Vh 3).2) 1))), ((Bh 3) 6, .inr (3, [.ref ((Bh 3) 7)])), ((Bh 3) 7, .inl (yI, 60, .inl (((Vh 3).2) 2))), ((Bh 3) 8, .inr (5, [.ref ((Bh 3) 9), .ref ((Bh 3) 11), .ref ((Bh 3) 13), .ref ((Bh 3) 15), .int (((Vh 3).1) 2)])), ((Bh 3) 9, .inr (3, [.ref ((Bh 3) 10)])), ((Bh 3) 10, .inl (yI, 80, .inl (((Vh 3).2) 3))), ((Bh 3) 11, .inr (3, [.ref ((Bh 3) 12)])), ((Bh 3) 12, .inl (yI, 80, .inl (((Vh 3).2) 4))), ((Bh 3) 13, .inr (3, [.ref ((Bh 3) 14)])), ((Bh 3) 14, .inl (yI, 80, .inl (((Vh 3).2) 5))), ((Bh 3) 15, .inr (3, [.ref ((Bh 3) 16)])), ((Bh 3) 16, .inl (yI, 80, .inl (((Vh 3).2) 6))), ((Bh 3) 17, .inr (3, [.ref ((Bh 3) 18)])), ((Bh 3) 18, .inl (yI, 3, .inl (((Vh 3).2) 7)))]) (va_runV (As := [.ref ((Bh 1) 0)]) (rest := []) ⟨hx, hb, hml, hown, hts⟩ (c_X6_copyFrom l D yI yC yO B' (Bh 1) i' a' ((Vh 1).1) ((Vh 1).2) _ ) (cwV 1 hts gX2_takeLatestInto_X6_copyFrom rfl rfl rfl (by decide +kernel) ⟨Nat.le_of_ble_eq_true rfl, Nat.le_of_ble_eq_true rfl⟩) (lt_qV hK0 hPc hDc (va_recv hK hPc (ci := 6) (q0 := 0) rfl rfl)) rfl rfl hl.1 rfl (lv_room (Nat.le_of_ble_eq_true rfl)) dX2_takeLatestInto_37 ⟨Nat.zero_le _, Nat.zero_le _⟩) hP hD hS hA [78, 79, 80, 81, 82, 83, 84, 85, 86, 87, 88, 89, 90, 91, 92, 93, 94, 95, 96, 21, 22, 23, 24, 25, 26, 27, 28, 29, 30, 31, 32, 33, 34, 35, 36, 37, 38, 39] [0, 1, 2, 3, 4, 5, 6, 7, 8, 9, 10, 11, 12, 13, 14, 15, 16, 17, 18, 19, 20, 40, 41, 42, 43, 44, 45, 46, 47, 48, 49, 50, 51, 52, 53, 54, 55, 56, 57, 58, 59, 60, 61, 62, 63, 64, 65, 66, 67, 68, 69, 70, 71, 72, 73, 74, 75, 76, 77] rfl rfl (by decide) (by decide) (fun H locs hP hD hS => ?_)
  have hP := hP.sub (ws' := lt_Hi yI yO G 2 Bh Vh ++ lt_St yI B' ((Vh 1).1) ((Vh 1).2)) [0, 1, 2, 3, 4, 5, 6, 7, 8, 9, 10, 11, 12, 13, 14, 15, 16, 17, 18, 19, 20, 78, 79, 80, 81, 82, 83, 84, 85, 86, 87, 88, 89, 90, 91, 92, 93, 94, 95, 96, 21, 22, 23, 24, 25, 26, 27, 28, 29, 30, 31, 32, 33, 34, 35, 36, 37, 38, 39, 40, 41, 42, 43, 44, 45, 46, 47, 48, 49, 50, 51, 52, 53, 54, 55, 56, 57, 58, 59, 60, 61, 62, 63, 64, 65, 66, 67, 68, 69, 70, 71, 72, 73, 74, 75, 76, 77] rfl
  have hD := hD.sub (ws' := lt_Hi yI yO G 2 Bh Vh ++ lt_St yI B' ((Vh 1).1) ((Vh 1).2)) [0, 1, 2, 3, 4, 5, 6, 7, 8, 9, 10, 11, 12, 13, 14, 15, 16, 17, 18, 19, 20, 78, 79, 80, 81, 82, 83, 84, 85, 86, 87, 88, 89, 90, 91, 92, 93, 94, 95, 96, 21, 22, 23, 24, 25, 26, 27, 28, 29, 30, 31, 32, 33, 34, 35, 36, 37, 38, 39, 40, 41, 42, 43, 44, 45, 46, 47, 48, 49, 50, 51, 52, 53, 54, 55, 56, 57, 58, 59, 60, 61, 62, 63, 64, 65, 66, 67, 68, 69, 70, 71, 72, 73, 74, 75, 76, 77] (by decide) rfl
  refine lv_aload_n hx hb dX2_takeLatestInto_40 rfl (lv_at hl 1 rfl) ?_
  refine lv_iload_n hx hb dX2_takeLatestInto_41 rfl (lv_at hl 0 rfl) ?_
  refine va_put (D := D) (ci := 2) (v := .int 1) (ty := .int) (C := RX2) (T := TX2) (N := 2) hx hb hts iw_X2_takeLatestInto_2 tyX2 tyX2_ok nmX2 hown hK hP hD hS 0 rfl rfl 1 (by decide) (hts (.fieldLink RX2 18 "LeafTurner$History" "size" "I") (by decide +kernel)) (fun _ h9 => h9) rfl (by decide +kernel) rfl rfl (Nat.le_of_ble_eq_true rfl) dX2_takeLatestInto_42 (fun H locs hP hD hS => ?_)
  have hP : va_P D vwCl (lt_Hi yI yO G 1 Bh Vh ++ lt_St yI B' ((Vh 1).1) ((Vh 1).2)) H := hP
  have hD : va_D A (lt_Hi yI yO G 1 Bh Vh ++ lt_St yI B' ((Vh 1).1) ((Vh 1).2)) := hD
  have hP : va_P D vwCl (lt_Hi yI yO G (X2_tlz 2) Bh Vh ++ lt_St yI B' ((X2_tls 2 Vh i' a').1) ((X2_tls 2 Vh i' a').2)) H := hP
  have hD : va_D A (lt_Hi yI yO G (X2_tlz 2) Bh Vh ++ lt_St yI B' ((X2_tls 2 Vh i' a').1) ((X2_tls 2 Vh i' a').2)) := hD
  exact W.vret hx hb hret (fun t ht hW => ⟨⟨(X2_tlz 2, (X2_tls 2 Vh i' a').1, (X2_tls 2 Vh i' a').2), rfl, rfl, by rw [ht]; exact hP, hD⟩, hS.F ht⟩) hS.2.2 dX2_takeLatestInto_45

set_option maxHeartbeats 4000000 in
set_option maxRecDepth 100000 in
theorem c_X2_takeLatestInto_3 (l : Launch) (D : va_G) (yI yC yO : ClassId) (G : Nat → Nat) (B' : Nat → Nat) (Bh : Nat → Nat → Nat) (Vh : Nat → lt_SV) (i' : Nat → Int32) (a' : Nat → Nat → Int32) (sz : Nat) : Met l yX2_takeLatestInto wsX2_takeLatestInto ({ frames := 4, cells := 0, slots := 0, locals := 120 }) (va_Pc [.ref (G 0), .ref (B' 0)] (lt_M D yI yC yO (lt_Hi yI yO G 3 Bh Vh ++ lt_St yI B' i' a') sz)) (lt_Qv D (X2_takeLatestInto 3 Bh Vh i' a') (fun u => lt_Hi yI yO G u.1 Bh Vh ++ lt_St yI B' u.2.1 u.2.2) (va_A (lt_Hi yI yO G 3 Bh Vh ++ lt_St yI B' i' a') sz)) 0 0 (va_A (lt_Hi yI yO G 3 Bh Vh ++ lt_St yI B' i' a') sz) := by
  refine Met.ofW (cc := cX2_takeLatestInto) (maxL := 3) (ret := none) (by decide) rfl ?_
  intro p e s m args below meth c s₁ B0 hml hv
  obtain ⟨rfl, hsz, hP, hK0, hD0⟩ := hv
  have hx := B0.exec
  have hb := B0.bytes
  have hret := B0.returns
  have hts := atoms_spec (ws := wsX2_takeLatestInto) B0.pre
  have hown : s.vm.findClass RX2 = some m.cls := findClass_of_methodNamed B0.named
  have hlocks := B0.notSynchronized
  have hK := hK0.1
  have hN := hK0.2
  subst hsz
  have hD := hD0.self (sz := s.heap.size)
  generalize hAe : va_A (lt_Hi yI yO G 3 Bh Vh ++ lt_St yI B' i' a') s.heap.size = A at hD ⊢
  have hA : ∀ q : Nat, s.heap.size ≤ q → A q := fun q h => by rw [← hAe]; exact Or.inr h
  have hS : va_S A s.heap s.heap [] := va_S.rf
  have hP : va_P D vwCl (lt_Hi yI yO G 3 Bh Vh ++ lt_St yI B' i' a') s.heap := hP
  have hD : va_D A (lt_Hi yI yO G 3 Bh Vh ++ lt_St yI B' i' a') := hD
  have hl := lv_entry ([.ref (G 0), .ref (B' 0)]) (n := 3) (Nat.le_of_ble_eq_true rfl)
  rw [lg_entry_eq]
  generalize (lg_sl ([.ref (G 0), .ref (B' 0)]) ++ List.replicate (3 - (lg_sl ([.ref (G 0), .ref (B' 0)])).length) Slot.unset).toArray = ls at hl ⊢
  have hl : lv_has ls 3 [(0, .ref (G 0)), (1, .ref (B' 0))] := hl
  refine lv_aload_n hx hb dX2_takeLatestInto_0 rfl (lv_at hl 0 rfl) ?_
  refine va_get (D := D) (ci := 2) (v := .int 3) (C := RX2) (T := TX2) (N := 2) hx hb hts iw_X2_takeLatestInto_2 hown hK hP 0 rfl rfl 1 (by decide) (hts (.fieldLink RX2 18 "LeafTurner$History" "size" "I") (by decide +kernel)) (fun _ h9 => h9) rfl dX2_takeLatestInto_1 ?_
  refine lv_iconst (v := 1) hx hb dX2_takeLatestInto_4 (by decide) ?_
  refine lv_isub hx hb dX2_takeLatestInto_5 ?_
  refine lt_top (y := 2) (by decide) ?_
  refine lv_istore_n (lv' := [(2, .int 2), (0, .ref (G 0)), (1, .ref (B' 0))]) hx hb dX2_takeLatestInto_6 rfl hl (by decide) rfl (fun ls hl => ?_)
  refine lv_iload_n hx hb dX2_takeLatestInto_7 rfl (lv_at hl 0 rfl) ?_
  refine lv_if_lt (tgt := 29) hx hb dX2_takeLatestInto_8 (by decide) (fun c => absurd c (by decide)) (fun _ => ?_)
  refine lv_iload_n hx hb dX2_takeLatestInto_11 rfl (lv_at hl 0 rfl) ?_
  refine lv_aload_n hx hb dX2_takeLatestInto_12 rfl (lv_at hl 1 rfl) ?_
  refine va_get (D := D) (ci := 2) (v := .ref (G 1)) (C := RX2) (T := TX2) (N := 2) hx hb hts iw_X2_takeLatestInto_2 hown hK hP 0 rfl rfl 0 (by decide) (hts (.fieldLink RX2 11 "LeafTurner$History" "states" "[LLeafTurner$State;") (by decide +kernel)) (fun _ h9 => h9) rfl dX2_takeLatestInto_13 ?_
  refine va_alen (v := 4) hx hb hK hP 1 2 rfl rfl rfl dX2_takeLatestInto_16 ?_
  refine lv_icmp_ge (tgt := 29) hx hb dX2_takeLatestInto_17 (by decide) (fun c => absurd c (by decide)) (fun _ => ?_)
  refine lv_aload_n hx hb dX2_takeLatestInto_20 rfl (lv_at hl 1 rfl) ?_
  refine va_get (D := D) (ci := 2) (v := .ref (G 1)) (C := RX2) (T := TX2) (N := 2) hx hb hts iw_X2_takeLatestInto_2 hown hK hP 0 rfl rfl 0 (by decide) (hts (.fieldLink RX2 11 "LeafTurner$History" "states" "[LLeafTurner$State;") (by decide +kernel)) (fun _ h9 => h9) rfl dX2_takeLatestInto_21 ?_
  refine lv_iload_n hx hb dX2_takeLatestInto_24 rfl (lv_at hl 0 rfl) ?_
  refine va_aldq hx hb hK hP 1 2 rfl rfl (i := 2) (vp_in_iff.mpr (by decide)) dX2_takeLatestInto_25 ?_
  refine W.eq (g2 := F0 m 26 ls [.ref ((Bh 2) 0)]) rfl ?_
  refine lv_ifnonnull (tgt := 30) hx hb dX2_takeLatestInto_26 (by decide) ?_
  refine lv_aload_n hx hb dX2_takeLatestInto_30 rfl (lv_at hl 2 rfl) ?_
  refine lv_aload_n hx hb dX2_takeLatestInto_31 rfl (lv_at hl 1 rfl) ?_
  refine va_get (D := D) (ci := 2) (v := .ref (G 1)) (C := RX2) (T := TX2) (N := 2) hx hb hts iw_X2_takeLatestInto_2 hown hK hP 0 rfl rfl 0 (by decide) (hts (.fieldLink RX2 11 "LeafTurner$History" "states" "[LLeafTurner$State;") (by decide +kernel)) (fun _ h9 => h9) rfl dX2_takeLatestInto_32 ?_
  refine lv_iload_n hx hb dX2_takeLatestInto_35 rfl (lv_at hl 0 rfl) ?_
  refine va_aldq hx hb hK hP 1 2 rfl rfl (i := 2) (vp_in_iff.mpr (by decide)) dX2_takeLatestInto_36 ?_
  refine W.eq (g2 := F0 m 37 ls [.ref ((Bh 2) 0), .ref (B' 0)]) rfl ?_
  have hPc := hP.sub (ws' := lt_St yI B' i' a' ++ lt_St yI (Bh 2) ((Vh 2).1) ((Vh 2).2)) [78, 79, 80, 81, 82, 83, 84, 85, 86, 87, 88, 89, 90, 91, 92, 93, 94, 95, 96, 40, 41, 42, 43, 44, 45, 46, 47, 48, 49, 50, 51, 52, 53, 54, 55, 56, 57, 58] rfl
  have hDc := hD.sub (ws' := lt_St yI B' i' a' ++ lt_St yI (Bh 2) ((Vh 2).1) ((Vh 2).2)) [78, 79, 80, 81, 82, 83, 84, 85, 86, 87, 88, 89, 90, 91, 92, 93, 94, 95, 96, 40, 41, 42, 43, 44, 45, 46, 47, 48, 49, 50, 51, 52, 53, 54, 55, 56, 57, 58] (by decide) rfl
  refine lt_cWv0 (wc := lt_St yI B' i' a' ++ lt_St yI (Bh 2) ((Vh 2).1) ((Vh 2).2)) (wr := [(G 0, .inr (2, [.ref (G 1), .int 3])), (G 1, .inl (yO, 4, .inr (.inr (.inr (.inr (fun k => some (Bh k 0))))))), ((Bh 0) 0, .inr (6, [.ref ((Bh 0) 1), .ref ((Bh 0) 8), .ref ((Bh 0) 17), .int (((Vh 0).1) 1), .int (((Vh 0).1) 8), .int (((Vh 0).1) 4), .int (((Vh 0).1) 5), .int (((Vh 0).1) 6), .int (((Vh 0).1) 7), .int (((Vh 0).1) 3)])), ((Bh 0) 1, .inr (0, [.ref ((Bh 0) 2), .ref ((Bh 0) 4), .ref ((Bh 0) 6), .int (((Vh 0).1) 0)])), ((Bh 0) 2, .inr (3, [.ref ((Bh 0) 3)])), ((Bh 0) 3, .inl (yI, 30, .inl (((Vh 0).2) 0))), ((Bh 0) 4, .inr (3, [.ref ((Bh 0) 5)])), ((Bh 0) 5, .inl (yI, 30, .inl (((Vh 0).2) 1))), ((Bh 0) 6, .inr (3, [.ref ((Bh 0) 7)])), ((Bh 0) 7, .inl (yI, 60, .inl (((Vh 0).2) 2))), ((Bh 0) 8, .inr (5, [.ref ((Bh 0) 9), .ref ((Bh 0) 11), .ref ((Bh 0) 13), .ref ((Bh 0) 15), .int (((Vh 0).1) 2)])), ((Bh 0) 9, .inr (3, [.ref ((Bh 0) 10)])), ((Bh 0) 10, .inl (yI, 80, .inl (((Vh 0).2) 3))), ((Bh 0) 11, .inr (3, [.ref ((Bh 0) 12)])), ((Bh 0) 12, .inl (yI, 80, .inl (((Vh 0).2) 4))), ((Bh 0) 13, .inr (3, [.ref ((Bh 0) 14)])), ((Bh 0) 14, .inl (yI, 80, .inl (((Vh 0).2) 5))), ((Bh 0) 15, .inr (3, [.ref ((Bh 0) 16)])), ((Bh 0) 16, .inl (yI, 80, .inl (((Vh 0).2) 6))), ((Bh 0) 17, .inr (3, [.ref ((Bh 0) 18)])), ((Bh 0) 18, .inl (yI, 3, .inl (((Vh 0).2) 7))), ((Bh 1) 0, .inr (6, [.ref ((Bh 1) 1), .ref ((Bh 1) 8), .ref ((Bh 1) 17), .int (((Vh 1).1) 1), .int (((Vh 1).1) 8), .int (((Vh 1).1) 4), .int (((Vh 1).1) 5), .int (((Vh 1).1) 6), .int (((Vh 1).1) 7), .int (((Vh 1).1) 3)])), ((Bh 1) 1, .inr (0, [.ref ((Bh 1) 2), .ref ((Bh 1) 4), .ref ((Bh 1) 6), .int (((Vh 1).1) 0)])), ((Bh 1) 2, .inr (3, [.ref ((Bh 1) 3)])), ((Bh 1) 3, .inl (yI, 30, .inl (((Vh 1).2) 0))), ((Bh 1) 4, .inr (3, [.ref ((Bh 1) 5)])), ((Bh 1) 5, .inl (yI, 30, .inl (((Vh 1).2) 1))), ((Bh 1) 6, .inr (3, [.ref ((Bh 1) 7)])), ((Bh 1) 7, .inl (yI, 60, .inl (((Vh 1).2) 2))), ((Bh 1) 8, .inr (5, [.ref ((Bh 1) 9), .ref ((Bh 1) 11), .ref ((Bh 1) 13), .ref ((Bh 1) 15), .int (((Vh 1).1) 2)])), ((Bh 1) 9, .inr (3, [.ref ((Bh 1) 10)])), ((Bh 1) 10, .inl (yI, 80, .inl (((Vh 1).2) 3))), ((Bh 1) 11, .inr (3, [.ref ((Bh 1) 12)])), ((Bh 1) 12, .inl (yI, 80, .inl (((Vh 1).2) 4))), ((Bh 1) 13, .inr (3, [.ref ((Bh 1) 14)])), ((Bh 1) 14, .inl (yI, 80, .inl (((Vh 1).2) 5))), ((Bh 1) 15, .inr (3, [.ref ((Bh 1) 16)])), ((Bh 1) 16, .inl (yI, 80, .inl (((Vh 1).2) 6))), ((Bh 1) 17, .inr (3, [.ref ((Bh 1) 18)])), ((Bh 1) 18, .inl (yI, 3, .inl (((Vh 1).2) 7))), ((Bh 3) 0, .inr (6, [.ref ((Bh 3) 1), .ref ((Bh 3) 8), .ref ((Bh 3) 17), .int (((Vh 3).1) 1), .int (((Vh 3).1) 8), .int (((Vh 3).1) 4), .int (((Vh 3).1) 5), .int (((Vh 3).1) 6), .int (((Vh 3).1) 7), .int (((Vh 3).1) 3)])), ((Bh 3) 1, .inr (0, [.ref ((Bh 3) 2), .ref ((Bh 3) 4), .ref ((Bh 3) 6), .int (((Vh 3).1) 0)])), ((Bh 3) 2, .inr (3, [.ref ((Bh 3) 3)])), ((Bh 3) 3, .inl (yI, 30, .inl (((Vh 3).2) 0))), ((Bh 3) 4, .inr (3, [.ref ((Bh 3) 5)])), ((Bh 3) 5, .inl (yI, 30, .inl (((Vh 3).2) 1))), ((Bh 3) 6, .inr (3, [.ref ((Bh 3) 7)])), ((Bh 3) 7, .inl (yI, 60, .inl (((Vh 3).2) 2))), ((Bh 3) 8, .inr (5, [.ref ((Bh 3) 9), .ref ((Bh 3) 11), .ref ((Bh 3) 13), .ref ((Bh 3) 15), .int (((Vh 3).1) 2)])), ((Bh 3) 9, .inr (3, [.ref ((Bh 3) 10)])), ((Bh 3) 10, .inl (yI, 80, .inl (((Vh 3).2) 3))), ((Bh 3) 11, .inr (3, [.ref ((Bh 3) 12)])), ((Bh 3) 12, .inl (yI, 80, .inl (((Vh 3).2) 4))), ((Bh 3) 13, .inr (3, [.ref ((Bh 3) 14)])), ((Bh 3) 14, .inl (yI, 80, .inl (((Vh 3).2) 5))), ((Bh 3) 15, .inr (3, [.ref ((Bh 3) 16)])), ((Bh 3) 16, .inl (yI, 80, .inl (((Vh 3).2) 6))), ((Bh 3) 17, .inr (3, [.ref ((Bh 3) 18)])), ((Bh 3) 18, .inl (yI, 3, .inl (((Vh 3).2) 7)))]) (va_runV (As := [.ref ((Bh 2) 0)]) (rest := []) ⟨hx, hb, hml, hown, hts⟩ (c_X6_copyFrom l D yI yC yO B' (Bh 2) i' a' ((Vh 2).1) ((Vh 2).2) _ ) (cwV 1 hts gX2_takeLatestInto_X6_copyFrom rfl rfl rfl (by decide +kernel) ⟨Nat.le_of_ble_eq_true rfl, Nat.le_of_ble_eq_true rfl⟩) (lt_qV hK0 hPc hDc (va_recv hK hPc (ci := 6) (q0 := 0) rfl rfl)) rfl rfl hl.1 rfl (lv_room (Nat.le_of_ble_eq_true rfl)) dX2_takeLatestInto_37 ⟨Nat.zero_le _, Nat.zero_le _⟩) hP hD hS hA [78, 79, 80, 81, 82, 83, 84, 85, 86, 87, 88, 89, 90, 91, 92, 93, 94, 95, 96, 40, 41, 42, 43, 44, 45, 46, 47, 48, 49, 50, 51, 52, 53, 54, 55, 56, 57, 58] [0, 1, 2, 3, 4, 5, 6, 7, 8, 9, 10, 11, 12, 13, 14, 15, 16, 17, 18, 19, 20, 21, 22, 23, 24, 25, 26, 27, 28, 29, 30, 31, 32, 33, 34, 35, 36, 37, 38, 39, 59, 60, 61, 62, 63, 64, 65, 66, 67, 68, 69, 70, 71, 72, 73, 74, 75, 76, 77] rfl rfl (by decide) (by decide) (fun H locs hP hD hS => ?_)
  have hP := hP.sub (ws' := lt_Hi yI yO G 3 Bh Vh ++ lt_St yI B' ((Vh 2).1) ((Vh 2).2)) [0, 1, 2, 3, 4, 5, 6, 7, 8, 9, 10, 11, 12, 13, 14, 15, 16, 17, 18, 19, 20, 21, 22, 23, 24, 25, 26, 27, 28, 29, 30, 31, 32, 33, 34, 35, 36, 37, 38, 39, 78, 79, 80, 81, 82, 83, 84, 85, 86, 87, 88, 89, 90, 91, 92, 93, 94, 95, 96, 40, 41, 42, 43, 44, 45, 46, 47, 48, 49, 50, 51, 52, 53, 54, 55, 56, 57, 58, 59, 60, 61, 62, 63, 64, 65, 66, 67, 68, 69, 70, 71, 72, 73, 74, 75, 76, 77] rfl
  have hD := hD.sub (ws' := lt_Hi yI yO G 3 Bh Vh ++ lt_St yI B' ((Vh 2).1) ((Vh 2).2)) [0, 1, 2, 3, 4, 5, 6, 7, 8, 9, 10, 11, 12, 13, 14, 15, 16, 17, 18, 19, 20, 21, 22, 23, 24, 25, 26, 27, 28, 29, 30, 31, 32, 33, 34, 35, 36, 37, 38, 39, 78, 79, 80, 81, 82, 83, 84, 85, 86, 87, 88, 89, 90, 91, 92, 93, 94, 95, 96, 40, 41, 42, 43, 44, 45, 46, 47, 48, 49, 50, 51, 52, 53, 54, 55, 56, 57, 58, 59, 60, 61, 62, 63, 64, 65, 66, 67, 68, 69, 70, 71, 72, 73, 74, 75, 76, 77] (by decide) rfl
  refine lv_aload_n hx hb dX2_takeLatestInto_40 rfl (lv_at hl 1 rfl) ?_
  refine lv_iload_n hx hb dX2_takeLatestInto_41 rfl (lv_at hl 0 rfl) ?_
  refine va_put (D := D) (ci := 2) (v := .int 2) (ty := .int) (C := RX2) (T := TX2) (N := 2) hx hb hts iw_X2_takeLatestInto_2 tyX2 tyX2_ok nmX2 hown hK hP hD hS 0 rfl rfl 1 (by decide) (hts (.fieldLink RX2 18 "LeafTurner$History" "size" "I") (by decide +kernel)) (fun _ h9 => h9) rfl (by decide +kernel) rfl rfl (Nat.le_of_ble_eq_true rfl) dX2_takeLatestInto_42 (fun H locs hP hD hS => ?_)
  have hP : va_P D vwCl (lt_Hi yI yO G 2 Bh Vh ++ lt_St yI B' ((Vh 2).1) ((Vh 2).2)) H := hP
  have hD : va_D A (lt_Hi yI yO G 2 Bh Vh ++ lt_St yI B' ((Vh 2).1) ((Vh 2).2)) := hD
  have hP : va_P D vwCl (lt_Hi yI yO G (X2_tlz 3) Bh Vh ++ lt_St yI B' ((X2_tls 3 Vh i' a').1) ((X2_tls 3 Vh i' a').2)) H := hP
  have hD : va_D A (lt_Hi yI yO G (X2_tlz 3) Bh Vh ++ lt_St yI B' ((X2_tls 3 Vh i' a').1) ((X2_tls 3 Vh i' a').2)) := hD
  exact W.vret hx hb hret (fun t ht hW => ⟨⟨(X2_tlz 3, (X2_tls 3 Vh i' a').1, (X2_tls 3 Vh i' a').2), rfl, rfl, by rw [ht]; exact hP, hD⟩, hS.F ht⟩) hS.2.2 dX2_takeLatestInto_45

set_option maxHeartbeats 4000000 in
set_option maxRecDepth 100000 in
theorem c_X2_takeLatestInto_4 (l : Launch) (D : va_G) (yI yC yO : ClassId) (G : Nat → Nat) (B' : Nat → Nat) (Bh : Nat → Nat → Nat) (Vh : Nat → lt_SV) (i' : Nat → Int32) (a' : Nat → Nat → Int32) (sz : Nat) : Met l yX2_takeLatestInto wsX2_takeLatestInto ({ frames := 4, cells := 0, slots := 0, locals := 120 }) (va_Pc [.ref (G 0), .ref (B' 0)] (lt_M D yI yC yO (lt_Hi yI yO G 4 Bh Vh ++ lt_St yI B' i' a') sz)) (lt_Qv D (X2_takeLatestInto 4 Bh Vh i' a') (fun u => lt_Hi yI yO G u.1 Bh Vh ++ lt_St yI B' u.2.1 u.2.2) (va_A (lt_Hi yI yO G 4 Bh Vh ++ lt_St yI B' i' a') sz)) 0 0 (va_A (lt_Hi yI yO G 4 Bh Vh ++ lt_St yI B' i' a') sz) := by
  refine Met.ofW (cc := cX2_takeLatestInto) (maxL := 3) (ret := none) (by decide) rfl ?_
  intro p e s m args below meth c s₁ B0 hml hv
  obtain ⟨rfl, hsz, hP, hK0, hD0⟩ := hv
  have hx := B0.exec
  have hb := B0.bytes
  have hret := B0.returns
  have hts := atoms_spec (ws := wsX2_takeLatestInto) B0.pre
  have hown : s.vm.findClass RX2 = some m.cls := findClass_of_methodNamed B0.named
  have hlocks := B0.notSynchronized
  have hK := hK0.1
  have hN := hK0.2
  subst hsz
  have hD := hD0.self (sz := s.heap.size)
  generalize hAe : va_A (lt_Hi yI yO G 4 Bh Vh ++ lt_St yI B' i' a') s.heap.size = A at hD ⊢
  have hA : ∀ q : Nat, s.heap.size ≤ q → A q := fun q h => by rw [← hAe]; exact Or.inr h
  have hS : va_S A s.heap s.heap [] := va_S.rf
  have hP : va_P D vwCl (lt_Hi yI yO G 4 Bh Vh ++ lt_St yI B' i' a') s.heap := hP
  have hD : va_D A (lt_Hi yI yO G 4 Bh Vh ++ lt_St yI B' i' a') := hD
  have hl := lv_entry ([.ref (G 0), .ref (B' 0)]) (n := 3) (Nat.le_of_ble_eq_true rfl)
  rw [lg_entry_eq]
  generalize (lg_sl ([.ref (G 0), .ref (B' 0)]) ++ List.replicate (3 - (lg_sl ([.ref (G 0), .ref (B' 0)])).length) Slot.unset).toArray = ls at hl ⊢
  have hl : lv_has ls 3 [(0, .ref (G 0)), (1, .ref (B' 0))] := hl
  refine lv_aload_n hx hb dX2_takeLatestInto_0 rfl (lv_at hl 0 rfl) ?_
  refine va_get (D := D) (ci := 2) (v := .int 4) (C := RX2) (T := TX2) (N := 2) hx hb hts iw_X2_takeLatestInto_2 hown hK hP 0 rfl rfl 1 (by decide) (hts (.fieldLink RX2 18 "LeafTurner$History" "size" "I") (by decide +kernel)) (fun _ h9 => h9) rfl dX2_takeLatestInto_1 ?_
  refine lv_iconst (v := 1) hx hb dX2_takeLatestInto_4 (by decide) ?_
  refine lv_isub hx hb dX2_takeLatestInto_5 ?_
  refine lt_top (y := 3) (by decide) ?_
  refine lv_istore_n (lv' := [(2, .int 3), (0, .ref (G 0)), (1, .ref (B' 0))]) hx hb dX2_takeLatestInto_6 rfl hl (by decide) rfl (fun ls hl => ?_)
  refine lv_iload_n hx hb dX2_takeLatestInto_7 rfl (lv_at hl 0 rfl) ?_
  refine lv_if_lt (tgt := 29) hx hb dX2_takeLatestInto_8 (by decide) (fun c => absurd c (by decide)) (fun _ => ?_)
  refine lv_iload_n hx hb dX2_takeLatestInto_11 rfl (lv_at hl 0 rfl) ?_
  refine lv_aload_n hx hb dX2_takeLatestInto_12 rfl (lv_at hl 1 rfl) ?_
  refine va_get (D := D) (ci := 2) (v := .ref (G 1)) (C := RX2) (T := TX2) (N := 2) hx hb hts iw_X2_takeLatestInto_2 hown hK hP 0 rfl rfl 0 (by decide) (hts (.fieldLink RX2 11 "LeafTurner$History" "states" "[LLeafTurner$State;") (by decide +kernel)) (fun _ h9 => h9) rfl dX2_takeLatestInto_13 ?_
  refine va_alen (v := 4) hx hb hK hP 1 2 rfl rfl rfl dX2_takeLatestInto_16 ?_
  refine lv_icmp_ge (tgt := 29) hx hb dX2_takeLatestInto_17 (by decide) (fun c => absurd c (by decide)) (fun _ => ?_)
  refine lv_aload_n hx hb dX2_takeLatestInto_20 rfl (lv_at hl 1 rfl) ?_
  refine va_get (D := D) (ci := 2) (v := .ref (G 1)) (C := RX2) (T := TX2) (N := 2) hx hb hts iw_X2_takeLatestInto_2 hown hK hP 0 rfl rfl 0 (by decide) (hts (.fieldLink RX2 11 "LeafTurner$History" "states" "[LLeafTurner$State;") (by decide +kernel)) (fun _ h9 => h9) rfl dX2_takeLatestInto_21 ?_
  refine lv_iload_n hx hb dX2_takeLatestInto_24 rfl (lv_at hl 0 rfl) ?_
  refine va_aldq hx hb hK hP 1 2 rfl rfl (i := 3) (vp_in_iff.mpr (by decide)) dX2_takeLatestInto_25 ?_
  refine W.eq (g2 := F0 m 26 ls [.ref ((Bh 3) 0)]) rfl ?_
  refine lv_ifnonnull (tgt := 30) hx hb dX2_takeLatestInto_26 (by decide) ?_
  refine lv_aload_n hx hb dX2_takeLatestInto_30 rfl (lv_at hl 2 rfl) ?_
  refine lv_aload_n hx hb dX2_takeLatestInto_31 rfl (lv_at hl 1 rfl) ?_
  refine va_get (D := D) (ci := 2) (v := .ref (G 1)) (C := RX2) (T := TX2) (N := 2) hx hb hts iw_X2_takeLatestInto_2 hown hK hP 0 rfl rfl 0 (by decide) (hts (.fieldLink RX2 11 "LeafTurner$History" "states" "[LLeafTurner$State;") (by decide +kernel)) (fun _ h9 => h9) rfl dX2_takeLatestInto_32 ?_
  refine lv_iload_n hx hb dX2_takeLatestInto_35 rfl (lv_at hl 0 rfl) ?_
  refine va_aldq hx hb hK hP 1 2 rfl rfl (i := 3) (vp_in_iff.mpr (by decide)) dX2_takeLatestInto_36 ?_
  refine W.eq (g2 := F0 m 37 ls [.ref ((Bh 3) 0), .ref (B' 0)]) rfl ?_
  have hPc := hP.sub (ws' := lt_St yI B' i' a' ++ lt_St yI (Bh 3) ((Vh 3).1) ((Vh 3).2)) [78, 79, 80, 81, 82, 83, 84, 85, 86, 87, 88, 89, 90, 91, 92, 93, 94, 95, 96, 59, 60, 61, 62, 63, 64, 65, 66, 67, 68, 69, 70, 71, 72, 73, 74, 75, 76, 77] rfl
  have hDc := hD.sub (ws' := lt_St yI B' i' a' ++ lt_St yI (Bh 3) ((Vh 3).1) ((Vh 3).2)) [78, 79, 80, 81, 82, 83, 84, 85, 86, 87, 88, 89, 90, 91, 92, 93, 94, 95, 96, 59, 60, 61, 62, 63, 64, 65, 66, 67, 68, 69, 70, 71, 72, 73, 74, 75, 76, 77] (by decide) rfl
  refine lt_cWv0 (wc := lt_St yI B' i' a' ++ lt_St yI (Bh 3) ((Vh 3).1) ((Vh 3).2)) (wr := [(G 0, .inr (2, [.ref (G 1), .int 4])), (G 1, .inl (yO, 4, .inr (.inr (.inr (.inr (fun k => some (Bh k 0))))))), ((Bh 0) 0, .inr (6, [.ref ((Bh 0) 1), .ref ((Bh 0) 8), .ref ((Bh 0) 17), .int (((Vh 0).1) 1), .int (((Vh 0).1) 8), .int (((Vh 0).1) 4), .int (((Vh 0).1) 5), .int (((Vh 0).1) 6), .int (((Vh 0).1) 7), .int (((Vh 0).1) 3)])), ((Bh 0) 1, .inr (0, [.ref ((Bh 0) 2), .ref ((Bh 0) 4), .ref ((Bh 0) 6), .int (((Vh 0).1) 0)])), ((Bh 0) 2, .inr (3, [.ref ((Bh 0) 3)])), ((Bh 0) 3, .inl (yI, 30, .inl (((Vh 0).2) 0))), ((Bh 0) 4, .inr (3, [.ref ((Bh 0) 5)])), ((Bh 0) 5, .inl (yI, 30, .inl (((Vh 0).2) 1))), ((Bh 0) 6, .inr (3, [.ref ((Bh 0) 7)])), ((Bh 0) 7, .inl (yI, 60, .inl (((Vh 0).2) 2))), ((Bh 0) 8, .inr (5, [.ref ((Bh 0) 9), .ref ((Bh 0) 11), .ref ((Bh 0) 13), .ref ((Bh 0) 15), .int (((Vh 0).1) 2)])), ((Bh 0) 9, .inr (3, [.ref ((Bh 0) 10)])), ((Bh 0) 10, .inl (yI, 80, .inl (((Vh 0).2) 3))), ((Bh 0) 11, .inr (3, [.ref ((Bh 0) 12)])), ((Bh 0) 12, .inl (yI, 80, .inl (((Vh 0).2) 4))), ((Bh 0) 13, .inr (3, [.ref ((Bh 0) 14)])), ((Bh 0) 14, .inl (yI, 80, .inl (((Vh 0).2) 5))), ((Bh 0) 15, .inr (3, [.ref ((Bh 0) 16)])), ((Bh 0) 16, .inl (yI, 80, .inl (((Vh 0).2) 6))), ((Bh 0) 17, .inr (3, [.ref ((Bh 0) 18)])), ((Bh 0) 18, .inl (yI, 3, .inl (((Vh 0).2) 7))), ((Bh 1) 0, .inr (6, [.ref ((Bh 1) 1), .ref ((Bh 1) 8), .ref ((Bh 1) 17), .int (((Vh 1).1) 1), .int (((Vh 1).1) 8), .int (((Vh 1).1) 4), .int (((Vh 1).1) 5), .int (((Vh 1).1) 6), .int (((Vh 1).1) 7), .int (((Vh 1).1) 3)])), ((Bh 1) 1, .inr (0, [.ref ((Bh 1) 2), .ref ((Bh 1) 4), .ref ((Bh 1) 6), .int (((Vh 1).1) 0)])), ((Bh 1) 2, .inr (3, [.ref ((Bh 1) 3)])), ((Bh 1) 3, .inl (yI, 30, .inl (((Vh 1).2) 0))), ((Bh 1) 4, .inr (3, [.ref ((Bh 1) 5)])), ((Bh 1) 5, .inl (yI, 30, .inl (((Vh 1).2) 1))), ((Bh 1) 6, .inr (3, [.ref ((Bh 1) 7)])), ((Bh 1) 7, .inl (yI, 60, .inl (((Vh 1).2) 2))), ((Bh 1) 8, .inr (5, [.ref ((Bh 1) 9), .ref ((Bh 1) 11), .ref ((Bh 1) 13), .ref ((Bh 1) 15), .int (((Vh 1).1) 2)])), ((Bh 1) 9, .inr (3, [.ref ((Bh 1) 10)])), ((Bh 1) 10, .inl (yI, 80, .inl (((Vh 1).2) 3))), ((Bh 1) 11, .inr (3, [.ref ((Bh 1) 12)])), ((Bh 1) 12, .inl (yI, 80, .inl (((Vh 1).2) 4))), ((Bh 1) 13, .inr (3, [.ref ((Bh 1) 14)])), ((Bh 1) 14, .inl (yI, 80, .inl (((Vh 1).2) 5))), ((Bh 1) 15, .inr (3, [.ref ((Bh 1) 16)])), ((Bh 1) 16, .inl (yI, 80, .inl (((Vh 1).2) 6))), ((Bh 1) 17, .inr (3, [.ref ((Bh 1) 18)])), ((Bh 1) 18, .inl (yI, 3, .inl (((Vh 1).2) 7))), ((Bh 2) 0, .inr (6, [.ref ((Bh 2) 1), .ref ((Bh 2) 8), .ref ((Bh 2) 17), .int (((Vh 2).1) 1), .int (((Vh 2).1) 8), .int (((Vh 2).1) 4), .int (((Vh 2).1) 5), .int (((Vh 2).1) 6), .int (((Vh 2).1) 7), .int (((Vh 2).1) 3)])), ((Bh 2) 1, .inr (0, [.ref ((Bh 2) 2), .ref ((Bh 2) 4), .ref ((Bh 2) 6), .int (((Vh 2).1) 0)])), ((Bh 2) 2, .inr (3, [.ref ((Bh 2) 3)])), ((Bh 2) 3, .inl (yI, 30, .inl (((Vh 2).2) 0))), ((Bh 2) 4, .inr (3, [.ref ((Bh 2) 5)])), ((Bh 2) 5, .inl (yI, 30, .inl (((Vh 2).2) 1))), ((Bh 2) 6, .inr (3, [.ref ((Bh 2) 7)])), ((Bh 2) 7, .inl (yI, 60, .inl (((Vh 2).2) 2))), ((Bh 2) 8, .inr (5, [.ref ((Bh 2) 9), .ref ((Bh 2) 11), .ref ((Bh 2) 13), .ref ((Bh 2) 15), .int (((Vh 2).1) 2)])), ((Bh 2) 9, .inr (3, [.ref ((Bh 2) 10)])), ((Bh 2) 10, .inl (yI, 80, .inl (((Vh 2).2) 3))), ((Bh 2) 11, .inr (3, [.ref ((Bh 2) 12)])), ((Bh 2) 12, .inl (yI, 80, .inl (((Vh 2).2) 4))), ((Bh 2) 13, .inr (3, [.ref ((Bh 2) 14)])), ((Bh 2) 14, .inl (yI, 80, .inl (((Vh 2).2) 5))), ((Bh 2) 15, .inr (3, [.ref ((Bh 2) 16)])), ((Bh 2) 16, .inl (yI, 80, .inl (((Vh 2).2) 6))), ((Bh 2) 17, .inr (3, [.ref ((Bh 2) 18)])), ((Bh 2) 18, .inl (yI, 3, .inl (((Vh 2).2) 7)))]) (va_runV (As := [.ref ((Bh 3) 0)]) (rest := []) ⟨hx, hb, hml, hown, hts⟩ (c_X6_copyFrom l D yI yC yO B' (Bh 3) i' a' ((Vh 3).1) ((Vh 3).2) _ ) (cwV 1 hts gX2_takeLatestInto_X6_copyFrom rfl rfl rfl (by decide +kernel) ⟨Nat.le_of_ble_eq_true rfl, Nat.le_of_ble_eq_true rfl⟩) (lt_qV hK0 hPc hDc (va_recv hK hPc (ci := 6) (q0 := 0) rfl rfl)) rfl rfl hl.1 rfl (lv_room (Nat.le_of_ble_eq_true rfl)) dX2_takeLatestInto_37 ⟨Nat.zero_le _, Nat.zero_le _⟩) hP hD hS hA [78, 79, 80, 81, 82, 83, 84, 85, 86, 87, 88, 89, 90, 91, 92, 93, 94, 95, 96, 59, 60, 61, 62, 63, 64, 65, 66, 67, 68, 69, 70, 71, 72, 73, 74, 75, 76, 77] [0, 1, 2, 3, 4, 5, 6, 7, 8, 9, 10, 11, 12, 13, 14, 15, 16, 17, 18, 19, 20, 21, 22, 23, 24, 25, 26, 27, 28, 29, 30, 31, 32, 33, 34, 35, 36, 37, 38, 39, 40, 41, 42, 43, 44, 45, 46, 47, 48, 49, 50, 51, 52, 53, 54, 55, 56, 57, 58] rfl rfl (by decide) (by decide) (fun H locs hP hD hS => ?_)
  have hP := hP.sub (ws' := lt_Hi yI yO G 4 Bh Vh ++ lt_St yI B' ((Vh 3).1) ((Vh 3).2)) [0, 1, 2, 3, 4, 5, 6, 7, 8, 9, 10, 11, 12, 13, 14, 15, 16, 17, 18, 19, 20, 21, 22, 23, 24, 25, 26, 27, 28, 29, 30, 31, 32, 33, 34, 35, 36, 37, 38, 39, 40, 41, 42, 43, 44, 45, 46, 47, 48, 49, 50, 51, 52, 53, 54, 55, 56, 57, 58, 78, 79, 80, 81, 82, 83, 84, 85, 86, 87, 88, 89, 90, 91, 92, 93, 94, 95, 96, 59, 60, 61, 62, 63, 64, 65, 66, 67, 68, 69, 70, 71, 72, 73, 74, 75, 76, 77] rfl
  have hD := hD.sub (ws' := lt_Hi yI yO G 4 Bh Vh ++ lt_St yI B' ((Vh 3).1) ((Vh 3).2)) [0, 1, 2, 3, 4, 5, 6, 7, 8, 9, 10, 11, 12, 13, 14, 15, 16, 17, 18, 19, 20, 21, 22, 23, 24, 25, 26, 27, 28, 29, 30, 31, 32, 33, 34, 35, 36, 37, 38, 39, 40, 41, 42, 43, 44, 45, 46, 47, 48, 49, 50, 51, 52, 53, 54, 55, 56, 57, 58, 78, 79, 80, 81, 82, 83, 84, 85, 86, 87, 88, 89, 90, 91, 92, 93, 94, 95, 96, 59, 60, 61, 62, 63, 64, 65, 66, 67, 68, 69, 70, 71, 72, 73, 74, 75, 76, 77] (by decide) rfl
  refine lv_aload_n hx hb dX2_takeLatestInto_40 rfl (lv_at hl 1 rfl) ?_
  refine lv_iload_n hx hb dX2_takeLatestInto_41 rfl (lv_at hl 0 rfl) ?_
  refine va_put (D := D) (ci := 2) (v := .int 3) (ty := .int) (C := RX2) (T := TX2) (N := 2) hx hb hts iw_X2_takeLatestInto_2 tyX2 tyX2_ok nmX2 hown hK hP hD hS 0 rfl rfl 1 (by decide) (hts (.fieldLink RX2 18 "LeafTurner$History" "size" "I") (by decide +kernel)) (fun _ h9 => h9) rfl (by decide +kernel) rfl rfl (Nat.le_of_ble_eq_true rfl) dX2_takeLatestInto_42 (fun H locs hP hD hS => ?_)
  have hP : va_P D vwCl (lt_Hi yI yO G 3 Bh Vh ++ lt_St yI B' ((Vh 3).1) ((Vh 3).2)) H := hP
  have hD : va_D A (lt_Hi yI yO G 3 Bh Vh ++ lt_St yI B' ((Vh 3).1) ((Vh 3).2)) := hD
  have hP : va_P D vwCl (lt_Hi yI yO G (X2_tlz 4) Bh Vh ++ lt_St yI B' ((X2_tls 4 Vh i' a').1) ((X2_tls 4 Vh i' a').2)) H := hP
  have hD : va_D A (lt_Hi yI yO G (X2_tlz 4) Bh Vh ++ lt_St yI B' ((X2_tls 4 Vh i' a').1) ((X2_tls 4 Vh i' a').2)) := hD
  exact W.vret hx hb hret (fun t ht hW => ⟨⟨(X2_tlz 4, (X2_tls 4 Vh i' a').1, (X2_tls 4 Vh i' a').2), rfl, rfl, by rw [ht]; exact hP, hD⟩, hS.F ht⟩) hS.2.2 dX2_takeLatestInto_45

theorem c_X2_record (l : Launch) (D : va_G) (yI yC yO : ClassId) (G : Nat → Nat) (B' : Nat → Nat) (z : Int32) (Bh : Nat → Nat → Nat) (Vh : Nat → lt_SV) (i' : Nat → Int32) (a' : Nat → Nat → Int32) (sz : Nat) (hz : lt_hz z) : Met l yX2_record wsX2_record ({ frames := 4, cells := 0, slots := 0, locals := 120 }) (va_Pc [.ref (G 0), .ref (B' 0)] (lt_M D yI yC yO (lt_Hi yI yO G z Bh Vh ++ lt_St yI B' i' a') sz)) (lt_Qv D (X2_record z Bh Vh i' a') (fun u => lt_Hi yI yO G u.1 u.2.1 u.2.2 ++ lt_St yI B' i' a') (va_A (lt_Hi yI yO G z Bh Vh ++ lt_St yI B' i' a') sz)) 0 0 (va_A (lt_Hi yI yO G z Bh Vh ++ lt_St yI B' i' a') sz) := by
  rcases hz with rfl | rfl | rfl | rfl | rfl
  · exact c_X2_record_0 l D yI yC yO G B' Bh Vh i' a' sz
  · exact c_X2_record_1 l D yI yC yO G B' Bh Vh i' a' sz
  · exact c_X2_record_2 l D yI yC yO G B' Bh Vh i' a' sz
  · exact c_X2_record_3 l D yI yC yO G B' Bh Vh i' a' sz
  · exact c_X2_record_4 l D yI yC yO G B' Bh Vh i' a' sz

theorem c_X2_takeLatestInto (l : Launch) (D : va_G) (yI yC yO : ClassId) (G : Nat → Nat) (B' : Nat → Nat) (z : Int32) (Bh : Nat → Nat → Nat) (Vh : Nat → lt_SV) (i' : Nat → Int32) (a' : Nat → Nat → Int32) (sz : Nat) (hz : lt_hz z) : Met l yX2_takeLatestInto wsX2_takeLatestInto ({ frames := 4, cells := 0, slots := 0, locals := 120 }) (va_Pc [.ref (G 0), .ref (B' 0)] (lt_M D yI yC yO (lt_Hi yI yO G z Bh Vh ++ lt_St yI B' i' a') sz)) (lt_Qv D (X2_takeLatestInto z Bh Vh i' a') (fun u => lt_Hi yI yO G u.1 Bh Vh ++ lt_St yI B' u.2.1 u.2.2) (va_A (lt_Hi yI yO G z Bh Vh ++ lt_St yI B' i' a') sz)) 0 0 (va_A (lt_Hi yI yO G z Bh Vh ++ lt_St yI B' i' a') sz) := by
  rcases hz with rfl | rfl | rfl | rfl | rfl
  · exact c_X2_takeLatestInto_0 l D yI yC yO G B' Bh Vh i' a' sz
  · exact c_X2_takeLatestInto_1 l D yI yC yO G B' Bh Vh i' a' sz
  · exact c_X2_takeLatestInto_2 l D yI yC yO G B' Bh Vh i' a' sz
  · exact c_X2_takeLatestInto_3 l D yI yC yO G B' Bh Vh i' a' sz
  · exact c_X2_takeLatestInto_4 l D yI yC yO G B' Bh Vh i' a' sz
