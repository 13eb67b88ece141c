def lt_b0 (h : Nat) (u : Nat → Nat) : Nat → Nat := fun k => if k = 0 then h else u k
def lt_b1 (h : Nat) (u : Nat → Nat) : Nat → Nat := fun k => if k = 1 then h else u k
def lt_b8 (h : Nat) (u : Nat → Nat) : Nat → Nat := fun k => if k = 8 then h else u k
abbrev lt_UL : Type := Nat → Nat → Nat
def lt_si0 : Nat → Int32 := fun k => if k = 8 then 6 else 0
def lt_sa0 : Nat → Nat → Int32 := fun k => if k = 7 then (X3_put 3 (X3_put 3 (X3_put 3 (fun _ => 0) 0 2) 1 0) 2 1) else (fun _ => 0)
def lt_first : Nat → Int32 := fun j => if j = 0 then 2 else if j = 1 then 0 else 1
def lt_Mf (D : va_G) (yI yC yO : ClassId) (ws : va_W) (sz : Nat) (U : State) : Prop := lt_M D yI yC yO ws sz U ∧ va_AO "LeafTurner$State" U ∧ lt_Zx "SETTING_AT_FIRST" lt_first (va_A ws sz) U U.heap
def lt_Qc {S : Type} (D : va_G) (Wf : S → va_W) (A : Nat → Prop) : Array Value → State → Outcome → State → Prop := va_Qv (fun (_ : S) => True) (fun (u : S) (t : State) => va_P D vwCl (Wf u) t.heap ∧ va_D A (Wf u)) A
theorem lt_yI {D : va_G} {yI yC yO cA : ClassId} {s : State} (h : va_K D vwCl (lt_ty yI yC yO ++ [(cA, .int)]) s) : yI = cA := by
  have h1 : s.vm.findClass ("[" ++ FieldType.int.toString) = some cA := (h.2 3 _ rfl).2
  have h0 : s.vm.findClass ("[" ++ FieldType.int.toString) = some yI := (h.2 0 _ rfl).2
  exact Option.some.inj (h0.symm.trans h1)
theorem lt_yC {D : va_G} {yI yC yO cA : ClassId} {s : State} (h : va_K D vwCl (lt_ty yI yC yO ++ [(cA, .char)]) s) : yC = cA := by
  have h1 : s.vm.findClass ("[" ++ FieldType.char.toString) = some cA := (h.2 3 _ rfl).2
  have h0 : s.vm.findClass ("[" ++ FieldType.char.toString) = some yC := (h.2 1 _ rfl).2
  exact Option.some.inj (h0.symm.trans h1)
theorem lt_yQ {D : va_G} {yI yC yO cA : ClassId} {s : State} (h : va_K D vwCl (lt_ty yI yC yO ++ [(cA, .object "LeafTurner$State")]) s) : yO = cA := by
  obtain ⟨_, _, _, _, _, h1⟩ := (h.2 3 _ rfl).2
  obtain ⟨_, _, _, _, _, h0⟩ := (h.2 2 _ rfl).2
  exact Option.some.inj (h0.symm.trans h1)
theorem lt_qSf {D : va_G} {yI yC yO : ClassId} {s : State} {H : Heap} {As : List Value} {ws : va_W} {A : Nat → Prop} {locs : List Loc} (hK : lt_K D yI yC yO s) (hP : va_P D vwCl ws H) (hD : va_D A ws) (hAO : va_AO "LeafTurner$State" s) (hZ : lt_Zx "SETTING_AT_FIRST" lt_first A s s.heap) (hS : va_S A s.heap H locs) (hF : ∀ q, va_A ws H.size q → A q) : PreS s H (va_Pc As (lt_Mf D yI yC yO ws H.size)) As :=
  ⟨fun _ U g mk q => ⟨q.1, ⟨q.2.1.1, q.2.1.2.1, q.2.1.2.2.1.call, q.2.1.2.2.2⟩, q.2.2.1.moved (u := U) (U := U.calling g mk _) (Vm.Alike.refl U.vm), q.2.2.2.call⟩, fun U hU hW => ⟨rfl, ⟨by rw [hU], by rw [hU]; exact hP, hK.warm hW, hD.weaken (fun _ _ _ _ => trivial)⟩, hAO.moved hW.alike, hZ.to hS hF hW hU⟩⟩
section LTD
variable {p : Program} {l : Launch} {e : Env} {R : Room} {s : State} {m : MethodId} {args : Array Value} {below : List Frame} {meth : Method} {c : Code} {H : Heap} {locs : List Loc} {cells slots : Nat} {Q : State → Prop}
variable {pc : Nat} {ls : Array Slot} {rest st0 : List Value} {a : Array Value} {A0 : Nat → Prop} {H0 : Heap} {mc ms : Nat} {D : va_G}
theorem lt_cWc {S : Type} {Wf : S → va_W} {ws wc wr : va_W} (hr : va_Run p l e R s m args below meth c H locs cells slots mc ms (F0 m pc ls st0) rest (lt_Qc D Wf (va_A wc H.size) a) (va_A wc H.size))
    (hP : va_P D vwCl ws H) (hD : va_D A0 ws) (hS : va_S A0 H0 H locs) (hA : ∀ q, H0.size ≤ q → A0 q) (isC isR : List Nat) (hC : isC.map (fun i => ws[i]?) = wc.map some) (hR : isR.map (fun i => ws[i]?) = wr.map some) (hn : va_nd isR = true) (hdis : ∀ i ∈ isR, i ∉ isC)
    (kk : ∀ (x : S) (H1 : Heap) (locs1 : List Loc), va_P D vwCl (wr ++ Wf x) H1 → va_D A0 (wr ++ Wf x) → va_S A0 H0 H1 locs1 → W p l e R s m args below meth c H1 locs1 (cells + mc) (slots + ms) Q (F0 m (pc + 3) ls rest)) : W p l e R s m args below meth c H locs cells slots Q (F0 m pc ls st0) := by
  have hF := va_free (wc := wc) hD hS hA isC hC
  refine va_callv hr hS (fun q _ h => hF q h) hF (fun u t H1 locs1 ht hvm hw hB hz1 hk1 hS1 => ?_)
  obtain ⟨hP1, hD1⟩ := hB
  rw [ht] at hP1
  obtain ⟨hP2, hD2⟩ := va_join (wr := wr) (w1 := Wf u) hP hD isC isR hC hR hn hdis hk1 hF hP1 hD1
  exact kk u H1 locs1 hP2 hD2 hS1
end LTD
theorem iw_X3_init_3 : ∀ w ∈ wsX30, w ∈ wsX3_init := by decide +kernel
set_option maxHeartbeats 4000000 in
set_option maxRecDepth 100000 in
theorem c_X3_init (l : Launch) (D : va_G) (yI yC yO : ClassId) (h0 : Nat) (n : Nat) (sz : Nat) (hn : n < 100000) : Met l yX3_init wsX3_init ({ frames := 1, cells := 1, slots := n, locals := 30 }) (va_Pc [.ref h0, .int (Int32.ofNat n)] (lt_M D yI yC yO [(h0, .inr (3, [.null]))] sz)) (lt_Qc D (fun (u : Nat) => lt_N2 yI h0 u n (fun _ => 0)) (va_A [(h0, .inr (3, [.null]))] sz)) 1 n (va_A [(h0, .inr (3, [.null]))] sz) := by
  refine Met.ofW (cc := cX3_init) (maxL := 2) (ret := none) (by decide) rfl ?_
  intro p e s m args below meth c s₁ B0 hml hv
  obtain ⟨rfl, hsz, hP, hK0, hD0⟩ := hv
  have hx := B0.exec
  have hb := B0.bytes
  have hret := B0.returns
  have hts := atoms_spec (ws := wsX3_init) B0.pre
  have hown : s.vm.findClass RX3 = some m.cls := findClass_of_methodNamed B0.named
  have hlocks := B0.notSynchronized
  have hin : meth.name = "<init>" := (name_of_methodNamed B0.named B0.method).1
  have hK := hK0.1
  have hN := hK0.2
  subst hsz
  have hD := hD0.self (sz := s.heap.size)
  generalize hAe : va_A [(h0, .inr (3, [.null]))] s.heap.size = A at hD ⊢
  have hA : ∀ q : Nat, s.heap.size ≤ q → A q := fun q h => by rw [← hAe]; exact Or.inr h
  have hS : va_S A s.heap s.heap [] := va_S.rf
  have hP : va_P D vwCl [(h0, .inr (3, [.null]))] s.heap := hP
  have hD : va_D A [(h0, .inr (3, [.null]))] := hD
  have hl := lv_entry ([.ref h0, .int (Int32.ofNat n)]) (n := 2) (Nat.le_of_ble_eq_true rfl)
  rw [lg_entry_eq]
  generalize (lg_sl ([.ref h0, .int (Int32.ofNat n)]) ++ List.replicate (2 - (lg_sl ([.ref h0, .int (Int32.ofNat n)])).length) Slot.unset).toArray = ls at hl ⊢
  have hl : lv_has ls 2 [(0, .ref h0), (1, .int (Int32.ofNat n))] := hl
  refine lv_aload_n hx hb dX3_init_0 rfl (lv_at hl 0 rfl) ?_
  refine W.objInit hx hb hown (hts (.methodLink RX3 3 objectInit) (by decide +kernel)) (hts (.instanceMethod objectInit) (by decide +kernel)) (hts (.code objectInit ⟨#[0xb1]⟩ 1 none) (by decide +kernel)) rfl (by rw [hml]; exact hl.1) rfl dX3_init_1 (Nat.le_of_ble_eq_true rfl) (Nat.le_of_ble_eq_true rfl) ?_
  refine W.eq (g2 := F0 m 4 ls []) rfl ?_
  refine lv_aload_n hx hb dX3_init_4 rfl (lv_at hl 0 rfl) ?_
  refine lv_iload_n hx hb dX3_init_5 rfl (lv_at hl 1 rfl) ?_
  refine lv_iconst (v := 0) hx hb dX3_init_6 (by decide) ?_
  refine va_mmax hx hb (hml.trans hl.1.symm) hown (hts (.methodLink RX3 9 Lib.Math.max.name) (by decide +kernel)) (hts (.static Lib.Math.max.name) (by decide +kernel)) (hts (.initialized "java/lang/Math") (by decide +kernel)) (hts (.code Lib.Math.max.name Lib.Math.max.code 2 (some .int)) (by decide +kernel)) (Nat.le_of_ble_eq_true rfl) (Nat.le_of_ble_eq_true rfl) (Nat.zero_le _) (Nat.zero_le _) dX3_init_7 ?_
  refine lt_top (y := Int32.ofNat n) (if_neg (nI_pos (by omega))) ?_
  refine va_newa (atype := .int) (ty := .int) (N' := n) (a0 := (n, .inl (fun _ => 0))) hx hb (hts (.arrayClass .int) (by decide +kernel)) rfl hK hP hD hS hA (fun _ => rfl) (nI_pos (by omega)) (nI_clamp (by omega)) (by show n * 4 ≤ 536870912; omega) (Nat.le_of_ble_eq_true rfl) (by show 0 + n ≤ n; omega) dX3_init_10 (fun q10 cA H hK1 hP hD hS => ?_)
  obtain rfl := lt_yI hK1
  have hP : va_P D vwCl ([(h0, .inr (3, [.null])), (q10, .inl (yI, n, .inl (fun _ => 0)))]) H := hP
  have hD : va_D A ([(h0, .inr (3, [.null])), (q10, .inl (yI, n, .inl (fun _ => 0)))]) := hD
  refine va_putF (D := D) (ci := 3) (v := .ref q10) (ty := (.array .int)) (C := RX3) (T := TX3) (N := 1) hx hb hts iw_X3_init_3 tyX3 tyX3_ok nmX3 hown hK hP hD hS 0 rfl rfl 0 (by decide) (hts (.fieldLink RX3 15 "LeafTurner$Numbers" "cells" "[I") (by decide +kernel)) (fun _ h9 => h9) rfl hin rfl (by decide +kernel) rfl rfl (Nat.le_of_ble_eq_true rfl) dX3_init_12 (fun H locs hP hD hS => ?_)
  have hP : va_P D vwCl ([(h0, .inr (3, [.ref q10])), (q10, .inl (yI, n, .inl (fun _ => 0)))]) H := hP
  have hD : va_D A ([(h0, .inr (3, [.ref q10])), (q10, .inl (yI, n, .inl (fun _ => 0)))]) := hD
  have hP := hP.sub (ws' := lt_N2 yI h0 q10 n (fun _ => 0)) [0, 1] rfl
  have hD := hD.sub (ws' := lt_N2 yI h0 q10 n (fun _ => 0)) [0, 1] (by decide) rfl
  refine W.widen (k := 1) (n := n) (by omega) (by omega) ?_
  exact W.vret hx hb hret (fun t ht hW => ⟨⟨(q10 : Nat), rfl, trivial, by rw [ht]; exact hP, hD⟩, hS.F ht⟩) hS.2.2 dX3_init_15

theorem iw_X0_init_3 : ∀ w ∈ wsX30, w ∈ wsX0_init := by decide +kernel
theorem iw_X0_init_0 : ∀ w ∈ wsX00, w ∈ wsX0_init := by decide +kernel
set_option maxHeartbeats 4000000 in
set_option maxRecDepth 100000 in
theorem c_X0_init (l : Launch) (D : va_G) (yI yC yO : ClassId) (h0 : Nat) (sz : Nat) : Met l yX0_init wsX0_init ({ frames := 2, cells := 6, slots := 123, locals := 60 }) (va_Pc [.ref h0] (lt_M D yI yC yO [(h0, .inr (0, [.null, .null, .null, .int 0]))] sz)) (lt_Qc D (fun (u : Nat → Nat) => lt_Bk yI (lt_b1 h0 u) 0 (fun _ => 0) (fun _ => 0) (fun _ => 0)) (va_A [(h0, .inr (0, [.null, .null, .null, .int 0]))] sz)) 6 123 (va_A [(h0, .inr (0, [.null, .null, .null, .int 0]))] sz) := by
  refine Met.ofW (cc := cX0_init) (maxL := 1) (ret := none) (by decide) rfl ?_
  intro p e s m args below meth c s₁ B0 hml hv
  obtain ⟨rfl, hsz, hP, hK0, hD0⟩ := hv
  have hx := B0.exec
  have hb := B0.bytes
  have hret := B0.returns
  have hts := atoms_spec (ws := wsX0_init) B0.pre
  have hown : s.vm.findClass RX0 = some m.cls := findClass_of_methodNamed B0.named
  have hlocks := B0.notSynchronized
  have hin : meth.name = "<init>" := (name_of_methodNamed B0.named B0.method).1
  have hK := hK0.1
  have hN := hK0.2
  subst hsz
  have hD := hD0.self (sz := s.heap.size)
  generalize hAe : va_A [(h0, .inr (0, [.null, .null, .null, .int 0]))] s.heap.size = A at hD ⊢
  have hA : ∀ q : Nat, s.heap.size ≤ q → A q := fun q h => by rw [← hAe]; exact Or.inr h
  have hS : va_S A s.heap s.heap [] := va_S.rf
  have hP : va_P D vwCl [(h0, .inr (0, [.null, .null, .null, .int 0]))] s.heap := hP
  have hD : va_D A [(h0, .inr (0, [.null, .null, .null, .int 0]))] := hD
  have hl := lv_entry ([.ref h0]) (n := 1) (Nat.le_of_ble_eq_true rfl)
  rw [lg_entry_eq]
  generalize (lg_sl ([.ref h0]) ++ List.replicate (1 - (lg_sl ([.ref h0])).length) Slot.unset).toArray = ls at hl ⊢
  have hl : lv_has ls 1 [(0, .ref h0)] := hl
  refine lv_aload_n hx hb dX0_init_0 rfl (lv_at hl 0 rfl) ?_
  refine W.objInit hx hb hown (hts (.methodLink RX0 3 objectInit) (by decide +kernel)) (hts (.instanceMethod objectInit) (by decide +kernel)) (hts (.code objectInit ⟨#[0xb1]⟩ 1 none) (by decide +kernel)) rfl (by rw [hml]; exact hl.1) rfl dX0_init_1 (Nat.le_of_ble_eq_true rfl) (Nat.le_of_ble_eq_true rfl) ?_
  refine W.eq (g2 := F0 m 4 ls []) rfl ?_
  refine lv_aload_n hx hb dX0_init_4 rfl (lv_at hl 0 rfl) ?_
  refine va_new (ci := 3) (fs := [.null]) (C := RX3) (T := TX3) (N := 1) hx hb hts iw_X0_init_3 tyX3 tyX3_ok hown (hts (.classLink RX0 9 RX3) (by decide +kernel)) (hts (.instantiable RX3 1) (by decide +kernel)) (hts (.initialized RX3) (by decide +kernel)) hK hP hD hS hA rfl (fun j hj => by rcases (show j = 0 by omega) with rfl <;> rfl) (Nat.le_of_ble_eq_true rfl) (Nat.le_of_ble_eq_true rfl) dX0_init_5 (fun q5 H hP hD hS => ?_)
  have hP : va_P D vwCl ([(h0, .inr (0, [.null, .null, .null, .int 0])), (q5, .inr (3, [.null]))]) H := hP
  have hD : va_D A ([(h0, .inr (0, [.null, .null, .null, .int 0])), (q5, .inr (3, [.null]))]) := hD
  refine lv_dup hx hb dX0_init_8 rfl ?_
  refine lv_bipush (v := 30) hx hb dX0_init_9 (by decide) ?_
  have hPc := hP.sub (ws' := [(q5, .inr (3, [.null]))]) [1] rfl
  have hDc := hD.sub (ws' := [(q5, .inr (3, [.null]))]) [1] (by decide) rfl
  refine lt_cWc (wc := [(q5, .inr (3, [.null]))]) (wr := [(h0, .inr (0, [.null, .null, .null, .int 0]))]) (va_runI (As := [.int 30]) (rest := [.ref q5, .ref h0]) ⟨hx, hb, hml, hown, hts⟩ (c_X3_init l D yI yC yO q5 30 _ (by decide)) (cwI 1 hts gX0_init_X3_init rfl rfl rfl (hts (.initialized RX3) (by decide +kernel)) (hts (.methodLink RX0 11 yX3_init) (by decide +kernel)) (hts (.instanceMethod yX3_init) (by decide +kernel)) rfl (by decide +kernel) ⟨Nat.le_of_ble_eq_true rfl, Nat.le_of_ble_eq_true rfl⟩) (lt_qS hK0 hPc hDc) rfl rfl hl.1 rfl (lv_room (Nat.le_of_ble_eq_true rfl)) dX0_init_11 ⟨Nat.le_of_ble_eq_true rfl, Nat.le_of_ble_eq_true rfl⟩) hP hD hS hA [1] [0] rfl rfl (by decide) (by decide) (fun x_11 H locs hP hD hS => ?_)
  have hP : va_P D vwCl ([(h0, .inr (0, [.null, .null, .null, .int 0])), (q5, .inr (3, [.ref x_11])), (x_11, .inl (yI, 30, .inl (fun _ => 0)))]) H := hP
  have hD : va_D A ([(h0, .inr (0, [.null, .null, .null, .int 0])), (q5, .inr (3, [.ref x_11])), (x_11, .inl (yI, 30, .inl (fun _ => 0)))]) := hD
  refine va_putF (D := D) (ci := 0) (v := .ref q5) (ty := (.object "LeafTurner$Numbers")) (C := RX0) (T := TX0) (N := 4) hx hb hts iw_X0_init_0 tyX0 tyX0_ok nmX0 hown hK hP hD hS 0 rfl rfl 0 (by decide) (hts (.fieldLink RX0 14 "LeafTurner$Book" "weights" "LLeafTurner$Numbers;") (by decide +kernel)) (fun _ h9 => h9) rfl hin rfl (by decide +kernel) rfl rfl (Nat.le_of_ble_eq_true rfl) dX0_init_14 (fun H locs hP hD hS => ?_)
  have hP : va_P D vwCl ([(h0, .inr (0, [.ref q5, .null, .null, .int 0])), (q5, .inr (3, [.ref x_11])), (x_11, .inl (yI, 30, .inl (fun _ => 0)))]) H := hP
  have hD : va_D A ([(h0, .inr (0, [.ref q5, .null, .null, .int 0])), (q5, .inr (3, [.ref x_11])), (x_11, .inl (yI, 30, .inl (fun _ => 0)))]) := hD
  refine lv_aload_n hx hb dX0_init_17 rfl (lv_at hl 0 rfl) ?_
  refine va_new (ci := 3) (fs := [.null]) (C := RX3) (T := TX3) (N := 1) hx hb hts iw_X0_init_3 tyX3 tyX3_ok hown (hts (.classLink RX0 9 RX3) (by decide +kernel)) (hts (.instantiable RX3 1) (by decide +kernel)) (hts (.initialized RX3) (by decide +kernel)) hK hP hD hS hA rfl (fun j hj => by rcases (show j = 0 by omega) with rfl <;> rfl) (Nat.le_of_ble_eq_true rfl) (Nat.le_of_ble_eq_true rfl) dX0_init_18 (fun q18 H hP hD hS => ?_)
  have hP : va_P D vwCl ([(h0, .inr (0, [.ref q5, .null, .null, .int 0])), (q5, .inr (3, [.ref x_11])), (x_11, .inl (yI, 30, .inl (fun _ => 0))), (q18, .inr (3, [.null]))]) H := hP
  have hD : va_D A ([(h0, .inr (0, [.ref q5, .null, .null, .int 0])), (q5, .inr (3, [.ref x_11])), (x_11, .inl (yI, 30, .inl (fun _ => 0))), (q18, .inr (3, [.null]))]) := hD
  refine lv_dup hx hb dX0_init_21 rfl ?_
  refine lv_bipush (v := 30) hx hb dX0_init_22 (by decide) ?_
  have hPc := hP.sub (ws' := [(q18, .inr (3, [.null]))]) [3] rfl
  have hDc := hD.sub (ws' := [(q18, .inr (3, [.null]))]) [3] (by decide) rfl
  refine lt_cWc (wc := [(q18, .inr (3, [.null]))]) (wr := [(h0, .inr (0, [.ref q5, .null, .null, .int 0])), (q5, .inr (3, [.ref x_11])), (x_11, .inl (yI, 30, .inl (fun _ => 0)))]) (va_runI (As := [.int 30]) (rest := [.ref q18, .ref h0]) ⟨hx, hb, hml, hown, hts⟩ (c_X3_init l D yI yC yO q18 30 _ (by decide)) (cwI 1 hts gX0_init_X3_init rfl rfl rfl (hts (.initialized RX3) (by decide +kernel)) (hts (.methodLink RX0 11 yX3_init) (by decide +kernel)) (hts (.instanceMethod yX3_init) (by decide +kernel)) rfl (by decide +kernel) ⟨Nat.le_of_ble_eq_true rfl, Nat.le_of_ble_eq_true rfl⟩) (lt_qS hK0 hPc hDc) rfl rfl hl.1 rfl (lv_room (Nat.le_of_ble_eq_true rfl)) dX0_init_24 ⟨Nat.le_of_ble_eq_true rfl, Nat.le_of_ble_eq_true rfl⟩) hP hD hS hA [3] [0, 1, 2] rfl rfl (by decide) (by decide) (fun x_24 H locs hP hD hS => ?_)
  have hP : va_P D vwCl ([(h0, .inr (0, [.ref q5, .null, .null, .int 0])), (q5, .inr (3, [.ref x_11])), (x_11, .inl (yI, 30, .inl (fun _ => 0))), (q18, .inr (3, [.ref x_24])), (x_24, .inl (yI, 30, .inl (fun _ => 0)))]) H := hP
  have hD : va_D A ([(h0, .inr (0, [.ref q5, .null, .null, .int 0])), (q5, .inr (3, [.ref x_11])), (x_11, .inl (yI, 30, .inl (fun _ => 0))), (q18, .inr (3, [.ref x_24])), (x_24, .inl (yI, 30, .inl (fun _ => 0)))]) := hD
  refine va_putF (D := D) (ci := 0) (v := .ref q18) (ty := (.object "LeafTurner$Numbers")) (C := RX0) (T := TX0) (N := 4) hx hb hts iw_X0_init_0 tyX0 tyX0_ok nmX0 hown hK hP hD hS 0 rfl rfl 1 (by decide) (hts (.fieldLink RX0 20 "LeafTurner$Book" "strengths" "LLeafTurner$Numbers;") (by decide +kernel)) (fun _ h9 => h9) rfl hin rfl (by decide +kernel) rfl rfl (Nat.le_of_ble_eq_true rfl) dX0_init_27 (fun H locs hP hD hS => ?_)
  have hP : va_P D vwCl ([(h0, .inr (0, [.ref q5, .ref q18, .null, .int 0])), (q5, .inr (3, [.ref x_11])), (x_11, .inl (yI, 30, .inl (fun _ => 0))), (q18, .inr (3, [.ref x_24])), (x_24, .inl (yI, 30, .inl (fun _ => 0)))]) H := hP
  have hD : va_D A ([(h0, .inr (0, [.ref q5, .ref q18, .null, .int 0])), (q5, .inr (3, [.ref x_11])), (x_11, .inl (yI, 30, .inl (fun _ => 0))), (q18, .inr (3, [.ref x_24])), (x_24, .inl (yI, 30, .inl (fun _ => 0)))]) := hD
  refine lv_aload_n hx hb dX0_init_30 rfl (lv_at hl 0 rfl) ?_
  refine va_new (ci := 3) (fs := [.null]) (C := RX3) (T := TX3) (N := 1) hx hb hts iw_X0_init_3 tyX3 tyX3_ok hown (hts (.classLink RX0 9 RX3) (by decide +kernel)) (hts (.instantiable RX3 1) (by decide +kernel)) (hts (.initialized RX3) (by decide +kernel)) hK hP hD hS hA rfl (fun j hj => by rcases (show j = 0 by omega) with rfl <;> rfl) (Nat.le_of_ble_eq_true rfl) (Nat.le_of_ble_eq_true rfl) dX0_init_31 (fun q31 H hP hD hS => ?_)
  have hP : va_P D vwCl ([(h0, .inr (0, [.ref q5, .ref q18, .null, .int 0])), (q5, .inr (3, [.ref x_11])), (x_11, .inl (yI, 30, .inl (fun _ => 0))), (q18, .inr (3, [.ref x_24])), (x_24, .inl (yI, 30, .inl (fun _ => 0))), (q31, .inr (3, [.null]))]) H := hP
  have hD : va_D A ([(h0, .inr (0, [.ref q5, .ref q18, .null, .int 0])), (q5, .inr (3, [.ref x_11])), (x_11, .inl (yI, 30, .inl (fun _ => 0))), (q18, .inr (3, [.ref x_24])), (x_24, .inl (yI, 30, .inl (fun _ => 0))), (q31, .inr (3, [.null]))]) := hD
  refine lv_dup hx hb dX0_init_34 rfl ?_
  refine lv_bipush (v := 60) hx hb dX0_init_35 (by decide) ?_
  have hPc := hP.sub (ws' := [(q31, .inr (3, [.null]))]) [5] rfl
  have hDc := hD.sub (ws' := [(q31, .inr (3, [.null]))]) [5] (by decide) rfl
  refine lt_cWc (wc := [(q31, .inr (3, [.null]))]) (wr := [(h0, .inr (0, [.ref q5, .ref q18, .null, .int 0])), (q5, .inr (3, [.ref x_11])), (x_11, .inl (yI, 30, .inl (fun _ => 0))), (q18, .inr (3, [.ref x_24])), (x_24, .inl (yI, 30, .inl (fun _ => 0)))]) (va_runI (As := [.int 60]) (rest := [.ref q31, .ref h0]) ⟨hx, hb, hml, hown, hts⟩ (c_X3_init l D yI yC yO q31 60 _ (by decide)) (cwI 1 hts gX0_init_X3_init rfl rfl rfl (hts (.initialized RX3) (by decide +kernel)) (hts (.methodLink RX0 11 yX3_init) (by decide +kernel)) (hts (.instanceMethod yX3_init) (by decide +kernel)) rfl (by decide +kernel) ⟨Nat.le_of_ble_eq_true rfl, Nat.le_of_ble_eq_true rfl⟩) (lt_qS hK0 hPc hDc) rfl rfl hl.1 rfl (lv_room (Nat.le_of_ble_eq_true rfl)) dX0_init_37 ⟨Nat.le_of_ble_eq_true rfl, Nat.le_of_ble_eq_true rfl⟩) hP hD hS hA [5] [0, 1, 2, 3, 4] rfl rfl (by decide) (by decide) (fun x_37 H locs hP hD hS => ?_)
  have hP : va_P D vwCl ([(h0, .inr (0, [.ref q5, .ref q18, .null, .int 0])), (q5, .inr (3, [.ref x_11])), (x_11, .inl (yI, 30, .inl (fun _ => 0))), (q18, .inr (3, [.ref x_24])), (x_24, .inl (yI, 30, .inl (fun _ => 0))), (q31, .inr (3, [.ref x_37])), (x_37, .inl (yI, 60, .inl (fun _ => 0)))]) H := hP
  have hD : va_D A ([(h0, .inr (0, [.ref q5, .ref q18, .null, .int 0])), (q5, .inr (3, [.ref x_11])), (x_11, .inl (yI, 30, .inl (fun _ => 0))), (q18, .inr (3, [.ref x_24])), (x_24, .inl (yI, 30, .inl (fun _ => 0))), (q31, .inr (3, [.ref x_37])), (x_37, .inl (yI, 60, .inl (fun _ => 0)))]) := hD
  refine va_putF (D := D) (ci := 0) (v := .ref q31) (ty := (.object "LeafTurner$Numbers")) (C := RX0) (T := TX0) (N := 4) hx hb hts iw_X0_init_0 tyX0 tyX0_ok nmX0 hown hK hP hD hS 0 rfl rfl 2 (by decide) (hts (.fieldLink RX0 23 "LeafTurner$Book" "printed" "LLeafTurner$Numbers;") (by decide +kernel)) (fun _ h9 => h9) rfl hin rfl (by decide +kernel) rfl rfl (Nat.le_of_ble_eq_true rfl) dX0_init_40 (fun H locs hP hD hS => ?_)
  have hP : va_P D vwCl ([(h0, .inr (0, [.ref q5, .ref q18, .ref q31, .int 0])), (q5, .inr (3, [.ref x_11])), (x_11, .inl (yI, 30, .inl (fun _ => 0))), (q18, .inr (3, [.ref x_24])), (x_24, .inl (yI, 30, .inl (fun _ => 0))), (q31, .inr (3, [.ref x_37])), (x_37, .inl (yI, 60, .inl (fun _ => 0)))]) H := hP
  have hD : va_D A ([(h0, .inr (0, [.ref q5, .ref q18, .ref q31, .int 0])), (q5, .inr (3, [.ref x_11])), (x_11, .inl (yI, 30, .inl (fun _ => 0))), (q18, .inr (3, [.ref x_24])), (x_24, .inl (yI, 30, .inl (fun _ => 0))), (q31, .inr (3, [.ref x_37])), (x_37, .inl (yI, 60, .inl (fun _ => 0)))]) := hD
  refine lv_aload_n hx hb dX0_init_43 rfl (lv_at hl 0 rfl) ?_
  refine lv_iconst (v := 0) hx hb dX0_init_44 (by decide) ?_
  refine va_put (D := D) (ci := 0) (v := .int 0) (ty := .int) (C := RX0) (T := TX0) (N := 4) hx hb hts iw_X0_init_0 tyX0 tyX0_ok nmX0 hown hK hP hD hS 0 rfl rfl 3 (by decide) (hts (.fieldLink RX0 26 "LeafTurner$Book" "leaves" "I") (by decide +kernel)) (fun _ h9 => h9) rfl (by decide +kernel) rfl rfl (Nat.le_of_ble_eq_true rfl) dX0_init_45 (fun H locs hP hD hS => ?_)
  have hP : va_P D vwCl ([(h0, .inr (0, [.ref q5, .ref q18, .ref q31, .int 0])), (q5, .inr (3, [.ref x_11])), (x_11, .inl (yI, 30, .inl (fun _ => 0))), (q18, .inr (3, [.ref x_24])), (x_24, .inl (yI, 30, .inl (fun _ => 0))), (q31, .inr (3, [.ref x_37])), (x_37, .inl (yI, 60, .inl (fun _ => 0)))]) H := hP
  have hD : va_D A ([(h0, .inr (0, [.ref q5, .ref q18, .ref q31, .int 0])), (q5, .inr (3, [.ref x_11])), (x_11, .inl (yI, 30, .inl (fun _ => 0))), (q18, .inr (3, [.ref x_24])), (x_24, .inl (yI, 30, .inl (fun _ => 0))), (q31, .inr (3, [.ref x_37])), (x_37, .inl (yI, 60, .inl (fun _ => 0)))]) := hD
  have hP := hP.sub (ws' := lt_Bk yI (lt_b1 h0 (fun k => ([0, h0, q5, x_11, q18, x_24, q31, x_37] : List Nat).getD k 0)) 0 (fun _ => 0) (fun _ => 0) (fun _ => 0)) [0, 1, 2, 3, 4, 5, 6] rfl
  have hD := hD.sub (ws' := lt_Bk yI (lt_b1 h0 (fun k => ([0, h0, q5, x_11, q18, x_24, q31, x_37] : List Nat).getD k 0)) 0 (fun _ => 0) (fun _ => 0) (fun _ => 0)) [0, 1, 2, 3, 4, 5, 6] (by decide) rfl
  refine W.widen (k := 6) (n := 123) (Nat.le_of_ble_eq_true rfl) (Nat.le_of_ble_eq_true rfl) ?_
  exact W.vret hx hb hret (fun t ht hW => ⟨⟨(fun k => ([0, h0, q5, x_11, q18, x_24, q31, x_37] : List Nat).getD k 0 : Nat → Nat), rfl, trivial, by rw [ht]; exact hP, hD⟩, hS.F ht⟩) hS.2.2 dX0_init_48

theorem iw_X5_init_3 : ∀ w ∈ wsX30, w ∈ wsX5_init := by decide +kernel
theorem iw_X5_init_5 : ∀ w ∈ wsX50, w ∈ wsX5_init := by decide +kernel
set_option maxHeartbeats 4000000 in
set_option maxRecDepth 100000 in
theorem c_X5_init (l : Launch) (D : va_G) (yI yC yO : ClassId) (h0 : Nat) (sz : Nat) : Met l yX5_init wsX5_init ({ frames := 2, cells := 8, slots := 324, locals := 60 }) (va_Pc [.ref h0] (lt_M D yI yC yO [(h0, .inr (5, [.null, .null, .null, .null, .int 0]))] sz)) (lt_Qc D (fun (u : Nat → Nat) => lt_Ps yI (lt_b8 h0 u) 0 (fun _ => 0) (fun _ => 0) (fun _ => 0) (fun _ => 0)) (va_A [(h0, .inr (5, [.null, .null, .null, .null, .int 0]))] sz)) 8 324 (va_A [(h0, .inr (5, [.null, .null, .null, .null, .int 0]))] sz) := by
  refine Met.ofW (cc := cX5_init) (maxL := 1) (ret := none) (by decide) rfl ?_
  intro p e s m args below meth c s₁ B0 hml hv
  obtain ⟨rfl, hsz, hP, hK0, hD0⟩ := hv
  have hx := B0.exec
  have hb := B0.bytes
  have hret := B0.returns
  have hts := atoms_spec (ws := wsX5_init) B0.pre
  have hown : s.vm.findClass RX5 = some m.cls := findClass_of_methodNamed B0.named
  have hlocks := B0.notSynchronized
  have hin : meth.name = "<init>" := (name_of_methodNamed B0.named B0.method).1
  have hK := hK0.1
  have hN := hK0.2
  subst hsz
  have hD := hD0.self (sz := s.heap.size)
  generalize hAe : va_A [(h0, .inr (5, [.null, .null, .null, .null, .int 0]))] s.heap.size = A at hD ⊢
  have hA : ∀ q : Nat, s.heap.size ≤ q → A q := fun q h => by rw [← hAe]; exact Or.inr h
  have hS : va_S A s.heap s.heap [] := va_S.rf
  have hP : va_P D vwCl [(h0, .inr (5, [.null, .null, .null, .null, .int 0]))] s.heap := hP
  have hD : va_D A [(h0, .inr (5, [.null, .null, .null, .null, .int 0]))] := hD
  have hl := lv_entry ([.ref h0]) (n := 1) (Nat.le_of_ble_eq_true rfl)
  rw [lg_entry_eq]
  generalize (lg_sl ([.ref h0]) ++ List.replicate (1 - (lg_sl ([.ref h0])).length) Slot.unset).toArray = ls at hl ⊢
  have hl : lv_has ls 1 [(0, .ref h0)] := hl
  refine lv_aload_n hx hb dX5_init_0 rfl (lv_at hl 0 rfl) ?_
  refine W.objInit hx hb hown (hts (.methodLink RX5 3 objectInit) (by decide +kernel)) (hts (.instanceMethod objectInit) (by decide +kernel)) (hts (.code objectInit ⟨#[0xb1]⟩ 1 none) (by decide +kernel)) rfl (by rw [hml]; exact hl.1) rfl dX5_init_1 (Nat.le_of_ble_eq_true rfl) (Nat.le_of_ble_eq_true rfl) ?_
  refine W.eq (g2 := F0 m 4 ls []) rfl ?_
  refine lv_aload_n hx hb dX5_init_4 rfl (lv_at hl 0 rfl) ?_
  refine va_new (ci := 3) (fs := [.null]) (C := RX3) (T := TX3) (N := 1) hx hb hts iw_X5_init_3 tyX3 tyX3_ok hown (hts (.classLink RX5 9 RX3) (by decide +kernel)) (hts (.instantiable RX3 1) (by decide +kernel)) (hts (.initialized RX3) (by decide +kernel)) hK hP hD hS hA rfl (fun j hj => by rcases (show j = 0 by omega) with rfl <;> rfl) (Nat.le_of_ble_eq_true rfl) (Nat.le_of_ble_eq_true rfl) dX5_init_5 (fun q5 H hP hD hS => ?_)
  have hP : va_P D vwCl ([(h0, .inr (5, [.null, .null, .null, .null, .int 0])), (q5, .inr (3, [.null]))]) H := hP
  have hD : va_D A ([(h0, .inr (5, [.null, .null, .null, .null, .int 0])), (q5, .inr (3, [.null]))]) := hD
  refine lv_dup hx hb dX5_init_8 rfl ?_
  refine lv_bipush (v := 80) hx hb dX5_init_9 (by decide) ?_
  have hPc := hP.sub (ws' := [(q5, .inr (3, [.null]))]) [1] rfl
  have hDc := hD.sub (ws' := [(q5, .inr (3, [.null]))]) [1] (by decide) rfl
  refine lt_cWc (wc := [(q5, .inr (3, [.null]))]) (wr := [(h0, .inr (5, [.null, .null, .null, .null, .int 0]))]) (va_runI (As := [.int 80]) (rest := [.ref q5, .ref h0]) ⟨hx, hb, hml, hown, hts⟩ (c_X3_init l D yI yC yO q5 80 _ (by decide)) (cwI 1 hts gX5_init_X3_init rfl rfl rfl (hts (.initialized RX3) (by decide +kernel)) (hts (.methodLink RX5 11 yX3_init) (by decide +kernel)) (hts (.instanceMethod yX3_init) (by decide +kernel)) rfl (by decide +kernel) ⟨Nat.le_of_ble_eq_true rfl, Nat.le_of_ble_eq_true rfl⟩) (lt_qS hK0 hPc hDc) rfl rfl hl.1 rfl (lv_room (Nat.le_of_ble_eq_true rfl)) dX5_init_11 ⟨Nat.le_of_ble_eq_true rfl, Nat.le_of_ble_eq_true rfl⟩) hP hD hS hA [1] [0] rfl rfl (by decide) (by decide) (fun x_11 H locs hP hD hS => ?_)
  have hP : va_P D vwCl ([(h0, .inr (5, [.null, .null, .null, .null, .int 0])), (q5, .inr (3, [.ref x_11])), (x_11, .inl (yI, 80, .inl (fun _ => 0)))]) H := hP
  have hD : va_D A ([(h0, .inr (5, [.null, .null, .null, .null, .int 0])), (q5, .inr (3, [.ref x_11])), (x_11, .inl (yI, 80, .inl (fun _ => 0)))]) := hD
  refine va_putF (D := D) (ci := 5) (v := .ref q5) (ty := (.object "LeafTurner$Numbers")) (C := RX5) (T := TX5) (N := 5) hx hb hts iw_X5_init_5 tyX5 tyX5_ok nmX5 hown hK hP hD hS 0 rfl rfl 0 (by decide) (hts (.fieldLink RX5 14 "LeafTurner$Pictures" "pages" "LLeafTurner$Numbers;") (by decide +kernel)) (fun _ h9 => h9) rfl hin rfl (by decide +kernel) rfl rfl (Nat.le_of_ble_eq_true rfl) dX5_init_14 (fun H locs hP hD hS => ?_)
  have hP : va_P D vwCl ([(h0, .inr (5, [.ref q5, .null, .null, .null, .int 0])), (q5, .inr (3, [.ref x_11])), (x_11, .inl (yI, 80, .inl (fun _ => 0)))]) H := hP
  have hD : va_D A ([(h0, .inr (5, [.ref q5, .null, .null, .null, .int 0])), (q5, .inr (3, [.ref x_11])), (x_11, .inl (yI, 80, .inl (fun _ => 0)))]) := hD
  refine lv_aload_n hx hb dX5_init_17 rfl (lv_at hl 0 rfl) ?_
  refine va_new (ci := 3) (fs := [.null]) (C := RX3) (T := TX3) (N := 1) hx hb hts iw_X5_init_3 tyX3 tyX3_ok hown (hts (.classLink RX5 9 RX3) (by decide +kernel)) (hts (.instantiable RX3 1) (by decide +kernel)) (hts (.initialized RX3) (by decide +kernel)) hK hP hD hS hA rfl (fun j hj => by rcases (show j = 0 by omega) with rfl <;> rfl) (Nat.le_of_ble_eq_true rfl) (Nat.le_of_ble_eq_true rfl) dX5_init_18 (fun q18 H hP hD hS => ?_)
  have hP : va_P D vwCl ([(h0, .inr (5, [.ref q5, .null, .null, .null, .int 0])), (q5, .inr (3, [.ref x_11])), (x_11, .inl (yI, 80, .inl (fun _ => 0))), (q18, .inr (3, [.null]))]) H := hP
  have hD : va_D A ([(h0, .inr (5, [.ref q5, .null, .null, .null, .int 0])), (q5, .inr (3, [.ref x_11])), (x_11, .inl (yI, 80, .inl (fun _ => 0))), (q18, .inr (3, [.null]))]) := hD
  refine lv_dup hx hb dX5_init_21 rfl ?_
  refine lv_bipush (v := 80) hx hb dX5_init_22 (by decide) ?_
  have hPc := hP.sub (ws' := [(q18, .inr (3, [.null]))]) [3] rfl
  have hDc := hD.sub (ws' := [(q18, .inr (3, [.null]))]) [3] (by decide) rfl
  refine lt_cWc (wc := [(q18, .inr (3, [.null]))]) (wr := [(h0, .inr (5, [.ref q5, .null, .null, .null, .int 0])), (q5, .inr (3, [.ref x_11])), (x_11, .inl (yI, 80, .inl (fun _ => 0)))]) (va_runI (As := [.int 80]) (rest := [.ref q18, .ref h0]) ⟨hx, hb, hml, hown, hts⟩ (c_X3_init l D yI yC yO q18 80 _ (by decide)) (cwI 1 hts gX5_init_X3_init rfl rfl rfl (hts (.initialized RX3) (by decide +kernel)) (hts (.methodLink RX5 11 yX3_init) (by decide +kernel)) (hts (.instanceMethod yX3_init) (by decide +kernel)) rfl (by decide +kernel) ⟨Nat.le_of_ble_eq_true rfl, Nat.le_of_ble_eq_true rfl⟩) (lt_qS hK0 hPc hDc) rfl rfl hl.1 rfl (lv_room (Nat.le_of_ble_eq_true rfl)) dX5_init_24 ⟨Nat.le_of_ble_eq_true rfl, Nat.le_of_ble_eq_true rfl⟩) hP hD hS hA [3] [0, 1, 2] rfl rfl (by decide) (by decide) (fun x_24 H locs hP hD hS => ?_)
  have hP : va_P D vwCl ([(h0, .inr (5, [.ref q5, .null, .null, .null, .int 0])), (q5, .inr (3, [.ref x_11])), (x_11, .inl (yI, 80, .inl (fun _ => 0))), (q18, .inr (3, [.ref x_24])), (x_24, .inl (yI, 80, .inl (fun _ => 0)))]) H := hP
  have hD : va_D A ([(h0, .inr (5, [.ref q5, .null, .null, .null, .int 0])), (q5, .inr (3, [.ref x_11])), (x_11, .inl (yI, 80, .inl (fun _ => 0))), (q18, .inr (3, [.ref x_24])), (x_24, .inl (yI, 80, .inl (fun _ => 0)))]) := hD
  refine va_putF (D := D) (ci := 5) (v := .ref q18) (ty := (.object "LeafTurner$Numbers")) (C := RX5) (T := TX5) (N := 5) hx hb hts iw_X5_init_5 tyX5 tyX5_ok nmX5 hown hK hP hD hS 0 rfl rfl 1 (by decide) (hts (.fieldLink RX5 20 "LeafTurner$Pictures" "numbers" "LLeafTurner$Numbers;") (by decide +kernel)) (fun _ h9 => h9) rfl hin rfl (by decide +kernel) rfl rfl (Nat.le_of_ble_eq_true rfl) dX5_init_27 (fun H locs hP hD hS => ?_)
  have hP : va_P D vwCl ([(h0, .inr (5, [.ref q5, .ref q18, .null, .null, .int 0])), (q5, .inr (3, [.ref x_11])), (x_11, .inl (yI, 80, .inl (fun _ => 0))), (q18, .inr (3, [.ref x_24])), (x_24, .inl (yI, 80, .inl (fun _ => 0)))]) H := hP
  have hD : va_D A ([(h0, .inr (5, [.ref q5, .ref q18, .null, .null, .int 0])), (q5, .inr (3, [.ref x_11])), (x_11, .inl (yI, 80, .inl (fun _ => 0))), (q18, .inr (3, [.ref x_24])), (x_24, .inl (yI, 80, .inl (fun _ => 0)))]) := hD
  refine lv_aload_n hx hb dX5_init_30 rfl (lv_at hl 0 rfl) ?_
  refine va_new (ci := 3) (fs := [.null]) (C := RX3) (T := TX3) (N := 1) hx hb hts iw_X5_init_3 tyX3 tyX3_ok hown (hts (.classLink RX5 9 RX3) (by decide +kernel)) (hts (.instantiable RX3 1) (by decide +kernel)) (hts (.initialized RX3) (by decide +kernel)) hK hP hD hS hA rfl (fun j hj => by rcases (show j = 0 by omega) with rfl <;> rfl) (Nat.le_of_ble_eq_true rfl) (Nat.le_of_ble_eq_true rfl) dX5_init_31 (fun q31 H hP hD hS => ?_)
  have hP : va_P D vwCl ([(h0, .inr (5, [.ref q5, .ref q18, .null, .null, .int 0])), (q5, .inr (3, [.ref x_11])), (x_11, .inl (yI, 80, .inl (fun _ => 0))), (q18, .inr (3, [.ref x_24])), (x_24, .inl (yI, 80, .inl (fun _ => 0))), (q31, .inr (3, [.null]))]) H := hP
  have hD : va_D A ([(h0, .inr (5, [.ref q5, .ref q18, .null, .null, .int 0])), (q5, .inr (3, [.ref x_11])), (x_11, .inl (yI, 80, .inl (fun _ => 0))), (q18, .inr (3, [.ref x_24])), (x_24, .inl (yI, 80, .inl (fun _ => 0))), (q31, .inr (3, [.null]))]) := hD
  refine lv_dup hx hb dX5_init_34 rfl ?_
  refine lv_bipush (v := 80) hx hb dX5_init_35 (by decide) ?_
  have hPc := hP.sub (ws' := [(q31, .inr (3, [.null]))]) [5] rfl
  have hDc := hD.sub (ws' := [(q31, .inr (3, [.null]))]) [5] (by decide) rfl
  refine lt_cWc (wc := [(q31, .inr (3, [.null]))]) (wr := [(h0, .inr (5, [.ref q5, .ref q18, .null, .null, .int 0])), (q5, .inr (3, [.ref x_11])), (x_11, .inl (yI, 80, .inl (fun _ => 0))), (q18, .inr (3, [.ref x_24])), (x_24, .inl (yI, 80, .inl (fun _ => 0)))]) (va_runI (As := [.int 80]) (rest := [.ref q31, .ref h0]) ⟨hx, hb, hml, hown, hts⟩ (c_X3_init l D yI yC yO q31 80 _ (by decide)) (cwI 1 hts gX5_init_X3_init rfl rfl rfl (hts (.initialized RX3) (by decide +kernel)) (hts (.methodLink RX5 11 yX3_init) (by decide +kernel)) (hts (.instanceMethod yX3_init) (by decide +kernel)) rfl (by decide +kernel) ⟨Nat.le_of_ble_eq_true rfl, Nat.le_of_ble_eq_true rfl⟩) (lt_qS hK0 hPc hDc) rfl rfl hl.1 rfl (lv_room (Nat.le_of_ble_eq_true rfl)) dX5_init_37 ⟨Nat.le_of_ble_eq_true rfl, Nat.le_of_ble_eq_true rfl⟩) hP hD hS hA [5] [0, 1, 2, 3, 4] rfl rfl (by decide) (by decide) (fun x_37 H locs hP hD hS => ?_)
  have hP : va_P D vwCl ([(h0, .inr (5, [.ref q5, .ref q18, .null, .null, .int 0])), (q5, .inr (3, [.ref x_11])), (x_11, .inl (yI, 80, .inl (fun _ => 0))), (q18, .inr (3, [.ref x_24])), (x_24, .inl (yI, 80, .inl (fun _ => 0))), (q31, .inr (3, [.ref x_37])), (x_37, .inl (yI, 80, .inl (fun _ => 0)))]) H := hP
  have hD : va_D A ([(h0, .inr (5, [.ref q5, .ref q18, .null, .null, .int 0])), (q5, .inr (3, [.ref x_11])), (x_11, .inl (yI, 80, .inl (fun _ => 0))), (q18, .inr (3, [.ref x_24])), (x_24, .inl (yI, 80, .inl (fun _ => 0))), (q31, .inr (3, [.ref x_37])), (x_37, .inl (yI, 80, .inl (fun _ => 0)))]) := hD
  refine va_putF (D := D) (ci := 5) (v := .ref q31) (ty := (.object "LeafTurner$Numbers")) (C := RX5) (T := TX5) (N := 5) hx hb hts iw_X5_init_5 tyX5 tyX5_ok nmX5 hown hK hP hD hS 0 rfl rfl 2 (by decide) (hts (.fieldLink RX5 23 "LeafTurner$Pictures" "gutters" "LLeafTurner$Numbers;") (by decide +kernel)) (fun _ h9 => h9) rfl hin rfl (by decide +kernel) rfl rfl (Nat.le_of_ble_eq_true rfl) dX5_init_40 (fun H locs hP hD hS => ?_)
  have hP : va_P D vwCl ([(h0, .inr (5, [.ref q5, .ref q18, .ref q31, .null, .int 0])), (q5, .inr (3, [.ref x_11])), (x_11, .inl (yI, 80, .inl (fun _ => 0))), (q18, .inr (3, [.ref x_24])), (x_24, .inl (yI, 80, .inl (fun _ => 0))), (q31, .inr (3, [.ref x_37])), (x_37, .inl (yI, 80, .inl (fun _ => 0)))]) H := hP
  have hD : va_D A ([(h0, .inr (5, [.ref q5, .ref q18, .ref q31, .null, .int 0])), (q5, .inr (3, [.ref x_11])), (x_11, .inl (yI, 80, .inl (fun _ => 0))), (q18, .inr (3, [.ref x_24])), (x_24, .inl (yI, 80, .inl (fun _ => 0))), (q31, .inr (3, [.ref x_37])), (x_37, .inl (yI, 80, .inl (fun _ => 0)))]) := hD
  refine lv_aload_n hx hb dX5_init_43 rfl (lv_at hl 0 rfl) ?_
  refine va_new (ci := 3) (fs := [.null]) (C := RX3) (T := TX3) (N := 1) hx hb hts iw_X5_init_3 tyX3 tyX3_ok hown (hts (.classLink RX5 9 RX3) (by decide +kernel)) (hts (.instantiable RX3 1) (by decide +kernel)) (hts (.initialized RX3) (by decide +kernel)) hK hP hD hS hA rfl (fun j hj => by rcases (show j = 0 by omega) with rfl <;> rfl) (Nat.le_of_ble_eq_true rfl) (Nat.le_of_ble_eq_true rfl) dX5_init_44 (fun q44 H hP hD hS => ?_)
  have hP : va_P D vwCl ([(h0, .inr (5, [.ref q5, .ref q18, .ref q31, .null, .int 0])), (q5, .inr (3, [.ref x_11])), (x_11, .inl (yI, 80, .inl (fun _ => 0))), (q18, .inr (3, [.ref x_24])), (x_24, .inl (yI, 80, .inl (fun _ => 0))), (q31, .inr (3, [.ref x_37])), (x_37, .inl (yI, 80, .inl (fun _ => 0))), (q44, .inr (3, [.null]))]) H := hP
  have hD : va_D A ([(h0, .inr (5, [.ref q5, .ref q18, .ref q31, .null, .int 0])), (q5, .inr (3, [.ref x_11])), (x_11, .inl (yI, 80, .inl (fun _ => 0))), (q18, .inr (3, [.ref x_24])), (x_24, .inl (yI, 80, .inl (fun _ => 0))), (q31, .inr (3, [.ref x_37])), (x_37, .inl (yI, 80, .inl (fun _ => 0))), (q44, .inr (3, [.null]))]) := hD
  refine lv_dup hx hb dX5_init_47 rfl ?_
  refine lv_bipush (v := 80) hx hb dX5_init_48 (by decide) ?_
  have hPc := hP.sub (ws' := [(q44, .inr (3, [.null]))]) [7] rfl
  have hDc := hD.sub (ws' := [(q44, .inr (3, [.null]))]) [7] (by decide) rfl
  refine lt_cWc (wc := [(q44, .inr (3, [.null]))]) (wr := [(h0, .inr (5, [.ref q5, .ref q18, .ref q31, .null, .int 0])), (q5, .inr (3, [.ref x_11])), (x_11, .inl (yI, 80, .inl (fun _ => 0))), (q18, .inr (3, [.ref x_24])), (x_24, .inl (yI, 80, .inl (fun _ => 0))), (q31, .inr (3, [.ref x_37])), (x_37, .inl (yI, 80, .inl (fun _ => 0)))]) (va_runI (As := [.int 80]) (rest := [.ref q44, .ref h0]) ⟨hx, hb, hml, hown, hts⟩ (c_X3_init l D yI yC yO q44 80 _ (by decide)) (cwI 1 hts gX5_init_X3_init rfl rfl rfl (hts (.initialized RX3) (by decide +kernel)) (hts (.methodLink RX5 11 yX3_init) (by decide +kernel)) (hts (.instanceMethod yX3_init) (by decide +kernel)) rfl (by decide +kernel) ⟨Nat.le_of_ble_eq_true rfl, Nat.le_of_ble_eq_true rfl⟩) (lt_qS hK0 hPc hDc) rfl rfl hl.1 rfl (lv_room (Nat.le_of_ble_eq_true rfl)) dX5_init_50 ⟨Nat.le_of_ble_eq_true rfl, Nat.le_of_ble_eq_true rfl⟩) hP hD hS hA [7] [0, 1, 2, 3, 4, 5, 6] rfl rfl (by decide) (by decide) (fun x_50 H locs hP hD hS => ?_)
  have hP : va_P D vwCl ([(h0, .inr (5, [.ref q5, .ref q18, .ref q31, .null, .int 0])), (q5, .inr (3, [.ref x_11])), (x_11, .inl (yI, 80, .inl (fun _ => 0))), (q18, .inr (3, [.ref x_24])), (x_24, .inl (yI, 80, .inl (fun _ => 0))), (q31, .inr (3, [.ref x_37])), (x_37, .inl (yI, 80, .inl (fun _ => 0))), (q44, .inr (3, [.ref x_50])), (x_50, .inl (yI, 80, .inl (fun _ => 0)))]) H := hP
  have hD : va_D A ([(h0, .inr (5, [.ref q5, .ref q18, .ref q31, .null, .int 0])), (q5, .inr (3, [.ref x_11])), (x_11, .inl (yI, 80, .inl (fun _ => 0))), (q18, .inr (3, [.ref x_24])), (x_24, .inl (yI, 80, .inl (fun _ => 0))), (q31, .inr (3, [.ref x_37])), (x_37, .inl (yI, 80, .inl (fun _ => 0))), (q44, .inr (3, [.ref x_50])), (x_50, .inl (yI, 80, .inl (fun _ => 0)))]) := hD
  refine va_putF (D := D) (ci := 5) (v := .ref q44) (ty := (.object "LeafTurner$Numbers")) (C := RX5) (T := TX5) (N := 5) hx hb hts iw_X5_init_5 tyX5 tyX5_ok nmX5 hown hK hP hD hS 0 rfl rfl 3 (by decide) (hts (.fieldLink RX5 26 "LeafTurner$Pictures" "pairs" "LLeafTurner$Numbers;") (by decide +kernel)) (fun _ h9 => h9) rfl hin rfl (by decide +kernel) rfl rfl (Nat.le_of_ble_eq_true rfl) dX5_init_53 (fun H locs hP hD hS => ?_)
  have hP : va_P D vwCl ([(h0, .inr (5, [.ref q5, .ref q18, .ref q31, .ref q44, .int 0])), (q5, .inr (3, [.ref x_11])), (x_11, .inl (yI, 80, .inl (fun _ => 0))), (q18, .inr (3, [.ref x_24])), (x_24, .inl (yI, 80, .inl (fun _ => 0))), (q31, .inr (3, [.ref x_37])), (x_37, .inl (yI, 80, .inl (fun _ => 0))), (q44, .inr (3, [.ref x_50])), (x_50, .inl (yI, 80, .inl (fun _ => 0)))]) H := hP
  have hD : va_D A ([(h0, .inr (5, [.ref q5, .ref q18, .ref q31, .ref q44, .int 0])), (q5, .inr (3, [.ref x_11])), (x_11, .inl (yI, 80, .inl (fun _ => 0))), (q18, .inr (3, [.ref x_24])), (x_24, .inl (yI, 80, .inl (fun _ => 0))), (q31, .inr (3, [.ref x_37])), (x_37, .inl (yI, 80, .inl (fun _ => 0))), (q44, .inr (3, [.ref x_50])), (x_50, .inl (yI, 80, .inl (fun _ => 0)))]) := hD
  refine lv_aload_n hx hb dX5_init_56 rfl (lv_at hl 0 rfl) ?_
  refine lv_iconst (v := 0) hx hb dX5_init_57 (by decide) ?_
  refine va_put (D := D) (ci := 5) (v := .int 0) (ty := .int) (C := RX5) (T := TX5) (N := 5) hx hb hts iw_X5_init_5 tyX5 tyX5_ok nmX5 hown hK hP hD hS 0 rfl rfl 4 (by decide) (hts (.fieldLink RX5 29 "LeafTurner$Pictures" "size" "I") (by decide +kernel)) (fun _ h9 => h9) rfl (by decide +kernel) rfl rfl (Nat.le_of_ble_eq_true rfl) dX5_init_58 (fun H locs hP hD hS => ?_)
  have hP : va_P D vwCl ([(h0, .inr (5, [.ref q5, .ref q18, .ref q31, .ref q44, .int 0])), (q5, .inr (3, [.ref x_11])), (x_11, .inl (yI, 80, .inl (fun _ => 0))), (q18, .inr (3, [.ref x_24])), (x_24, .inl (yI, 80, .inl (fun _ => 0))), (q31, .inr (3, [.ref x_37])), (x_37, .inl (yI, 80, .inl (fun _ => 0))), (q44, .inr (3, [.ref x_50])), (x_50, .inl (yI, 80, .inl (fun _ => 0)))]) H := hP
  have hD : va_D A ([(h0, .inr (5, [.ref q5, .ref q18, .ref q31, .ref q44, .int 0])), (q5, .inr (3, [.ref x_11])), (x_11, .inl (yI, 80, .inl (fun _ => 0))), (q18, .inr (3, [.ref x_24])), (x_24, .inl (yI, 80, .inl (fun _ => 0))), (q31, .inr (3, [.ref x_37])), (x_37, .inl (yI, 80, .inl (fun _ => 0))), (q44, .inr (3, [.ref x_50])), (x_50, .inl (yI, 80, .inl (fun _ => 0)))]) := hD
  have hP := hP.sub (ws' := lt_Ps yI (lt_b8 h0 (fun k => ([0, 0, 0, 0, 0, 0, 0, 0, h0, q5, x_11, q18, x_24, q31, x_37, q44, x_50] : List Nat).getD k 0)) 0 (fun _ => 0) (fun _ => 0) (fun _ => 0) (fun _ => 0)) [0, 1, 2, 3, 4, 5, 6, 7, 8] rfl
  have hD := hD.sub (ws' := lt_Ps yI (lt_b8 h0 (fun k => ([0, 0, 0, 0, 0, 0, 0, 0, h0, q5, x_11, q18, x_24, q31, x_37, q44, x_50] : List Nat).getD k 0)) 0 (fun _ => 0) (fun _ => 0) (fun _ => 0) (fun _ => 0)) [0, 1, 2, 3, 4, 5, 6, 7, 8] (by decide) rfl
  refine W.widen (k := 8) (n := 324) (Nat.le_of_ble_eq_true rfl) (Nat.le_of_ble_eq_true rfl) ?_
  exact W.vret hx hb hret (fun t ht hW => ⟨⟨(fun k => ([0, 0, 0, 0, 0, 0, 0, 0, h0, q5, x_11, q18, x_24, q31, x_37, q44, x_50] : List Nat).getD k 0 : Nat → Nat), rfl, trivial, by rw [ht]; exact hP, hD⟩, hS.F ht⟩) hS.2.2 dX5_init_61

theorem iw_X1_init_1 : ∀ w ∈ wsX10, w ∈ wsX1_init := by decide +kernel
set_option maxHeartbeats 4000000 in
set_option maxRecDepth 100000 in
theorem c_X1_init (l : Launch) (D : va_G) (yI yC yO : ClassId) (h0 : Nat) (sz : Nat) : Met l yX1_init wsX1_init ({ frames := 1, cells := 1, slots := 60, locals := 30 }) (va_Pc [.ref h0] (lt_M D yI yC yO [(h0, .inr (1, [.null, .int 0]))] sz)) (lt_Qc D (fun (u : Nat → Nat) => lt_Tx yC (lt_b0 h0 u) 0 (fun _ => 0)) (va_A [(h0, .inr (1, [.null, .int 0]))] sz)) 1 60 (va_A [(h0, .inr (1, [.null, .int 0]))] sz) := by
  refine Met.ofW (cc := cX1_init) (maxL := 1) (ret := none) (by decide) rfl ?_
  intro p e s m args below meth c s₁ B0 hml hv
  obtain ⟨rfl, hsz, hP, hK0, hD0⟩ := hv
  have hx := B0.exec
  have hb := B0.bytes
  have hret := B0.returns
  have hts := atoms_spec (ws := wsX1_init) B0.pre
  have hown : s.vm.findClass RX1 = some m.cls := findClass_of_methodNamed B0.named
  have hlocks := B0.notSynchronized
  have hin : meth.name = "<init>" := (name_of_methodNamed B0.named B0.method).1
  have hK := hK0.1
  have hN := hK0.2
  subst hsz
  have hD := hD0.self (sz := s.heap.size)
  generalize hAe : va_A [(h0, .inr (1, [.null, .int 0]))] s.heap.size = A at hD ⊢
  have hA : ∀ q : Nat, s.heap.size ≤ q → A q := fun q h => by rw [← hAe]; exact Or.inr h
  have hS : va_S A s.heap s.heap [] := va_S.rf
  have hP : va_P D vwCl [(h0, .inr (1, [.null, .int 0]))] s.heap := hP
  have hD : va_D A [(h0, .inr (1, [.null, .int 0]))] := hD
  have hl := lv_entry ([.ref h0]) (n := 1) (Nat.le_of_ble_eq_true rfl)
  rw [lg_entry_eq]
  generalize (lg_sl ([.ref h0]) ++ List.replicate (1 - (lg_sl ([.ref h0])).length) Slot.unset).toArray = ls at hl ⊢
  have hl : lv_has ls 1 [(0, .ref h0)] := hl
  refine lv_aload_n hx hb dX1_init_0 rfl (lv_at hl 0 rfl) ?_
  refine W.objInit hx hb hown (hts (.methodLink RX1 3 objectInit) (by decide +kernel)) (hts (.instanceMethod objectInit) (by decide +kernel)) (hts (.code objectInit ⟨#[0xb1]⟩ 1 none) (by decide +kernel)) rfl (by rw [hml]; exact hl.1) rfl dX1_init_1 (Nat.le_of_ble_eq_true rfl) (Nat.le_of_ble_eq_true rfl) ?_
  refine W.eq (g2 := F0 m 4 ls []) rfl ?_
  refine lv_aload_n hx hb dX1_init_4 rfl (lv_at hl 0 rfl) ?_
  refine lv_bipush (v := 60) hx hb dX1_init_5 (by decide) ?_
  refine va_newa (atype := .char) (ty := .char) (N' := 60) (a0 := (60, .inl (fun _ => 0))) hx hb (hts (.arrayClass .char) (by decide +kernel)) rfl hK hP hD hS hA (fun _ => rfl) (by decide) (by decide) (Nat.le_of_ble_eq_true rfl) (Nat.le_of_ble_eq_true rfl) (Nat.le_of_ble_eq_true rfl) dX1_init_7 (fun q7 cA H hK1 hP hD hS => ?_)
  obtain rfl := lt_yC hK1
  have hP : va_P D vwCl ([(h0, .inr (1, [.null, .int 0])), (q7, .inl (yC, 60, .inl (fun _ => 0)))]) H := hP
  have hD : va_D A ([(h0, .inr (1, [.null, .int 0])), (q7, .inl (yC, 60, .inl (fun _ => 0)))]) := hD
  refine va_putF (D := D) (ci := 1) (v := .ref q7) (ty := (.array .char)) (C := RX1) (T := TX1) (N := 2) hx hb hts iw_X1_init_1 tyX1 tyX1_ok nmX1 hown hK hP hD hS 0 rfl rfl 0 (by decide) (hts (.fieldLink RX1 9 "LeafTurner$BookText" "signs" "[C") (by decide +kernel)) (fun _ h9 => h9) rfl hin rfl (by decide +kernel) rfl rfl (Nat.le_of_ble_eq_true rfl) dX1_init_9 (fun H locs hP hD hS => ?_)
  have hP : va_P D vwCl ([(h0, .inr (1, [.ref q7, .int 0])), (q7, .inl (yC, 60, .inl (fun _ => 0)))]) H := hP
  have hD : va_D A ([(h0, .inr (1, [.ref q7, .int 0])), (q7, .inl (yC, 60, .inl (fun _ => 0)))]) := hD
  refine lv_aload_n hx hb dX1_init_12 rfl (lv_at hl 0 rfl) ?_
  refine lv_iconst (v := 0) hx hb dX1_init_13 (by decide) ?_
  refine va_put (D := D) (ci := 1) (v := .int 0) (ty := .int) (C := RX1) (T := TX1) (N := 2) hx hb hts iw_X1_init_1 tyX1 tyX1_ok nmX1 hown hK hP hD hS 0 rfl rfl 1 (by decide) (hts (.fieldLink RX1 15 "LeafTurner$BookText" "length" "I") (by decide +kernel)) (fun _ h9 => h9) rfl (by decide +kernel) rfl rfl (Nat.le_of_ble_eq_true rfl) dX1_init_14 (fun H locs hP hD hS => ?_)
  have hP : va_P D vwCl ([(h0, .inr (1, [.ref q7, .int 0])), (q7, .inl (yC, 60, .inl (fun _ => 0)))]) H := hP
  have hD : va_D A ([(h0, .inr (1, [.ref q7, .int 0])), (q7, .inl (yC, 60, .inl (fun _ => 0)))]) := hD
  have hP := hP.sub (ws' := lt_Tx yC (lt_b0 h0 (fun k => ([h0, q7] : List Nat).getD k 0)) 0 (fun _ => 0)) [0, 1] rfl
  have hD := hD.sub (ws' := lt_Tx yC (lt_b0 h0 (fun k => ([h0, q7] : List Nat).getD k 0)) 0 (fun _ => 0)) [0, 1] (by decide) rfl
  refine W.widen (k := 1) (n := 60) (Nat.le_of_ble_eq_true rfl) (Nat.le_of_ble_eq_true rfl) ?_
  exact W.vret hx hb hret (fun t ht hW => ⟨⟨(fun k => ([h0, q7] : List Nat).getD k 0 : Nat → Nat), rfl, trivial, by rw [ht]; exact hP, hD⟩, hS.F ht⟩) hS.2.2 dX1_init_17

theorem iw_X4_init_3 : ∀ w ∈ wsX30, w ∈ wsX4_init := by decide +kernel
theorem iw_X4_init_4 : ∀ w ∈ wsX40, w ∈ wsX4_init := by decide +kernel
set_option maxHeartbeats 4000000 in
set_option maxRecDepth 100000 in
theorem c_X4_init (l : Launch) (D : va_G) (yI yC yO : ClassId) (h0 : Nat) (sz : Nat) : Met l yX4_init wsX4_init ({ frames := 2, cells := 4, slots := 142, locals := 60 }) (va_Pc [.ref h0] (lt_M D yI yC yO [(h0, .inr (4, [.null, .null, .int 0, .int 0]))] sz)) (lt_Qc D (fun (u : Nat → Nat) => lt_Pg yI (lt_b0 h0 u) 0 0 (fun _ => 0) (fun _ => 0)) (va_A [(h0, .inr (4, [.null, .null, .int 0, .int 0]))] sz)) 4 142 (va_A [(h0, .inr (4, [.null, .null, .int 0, .int 0]))] sz) := by
  refine Met.ofW (cc := cX4_init) (maxL := 1) (ret := none) (by decide) rfl ?_
  intro p e s m args below meth c s₁ B0 hml hv
  obtain ⟨rfl, hsz, hP, hK0, hD0⟩ := hv
  have hx := B0.exec
  have hb := B0.bytes
  have hret := B0.returns
  have hts := atoms_spec (ws := wsX4_init) B0.pre
  have hown : s.vm.findClass RX4 = some m.cls := findClass_of_methodNamed B0.named
  have hlocks := B0.notSynchronized
  have hin : meth.name = "<init>" := (name_of_methodNamed B0.named B0.method).1
  have hK := hK0.1
  have hN := hK0.2
  subst hsz
  have hD := hD0.self (sz := s.heap.size)
  generalize hAe : va_A [(h0, .inr (4, [.null, .null, .int 0, .int 0]))] s.heap.size = A at hD ⊢
  have hA : ∀ q : Nat, s.heap.size ≤ q → A q := fun q h => by rw [← hAe]; exact Or.inr h
  have hS : va_S A s.heap s.heap [] := va_S.rf
  have hP : va_P D vwCl [(h0, .inr (4, [.null, .null, .int 0, .int 0]))] s.heap := hP
  have hD : va_D A [(h0, .inr (4, [.null, .null, .int 0, .int 0]))] := hD
  have hl := lv_entry ([.ref h0]) (n := 1) (Nat.le_of_ble_eq_true rfl)
  rw [lg_entry_eq]
  generalize (lg_sl ([.ref h0]) ++ List.replicate (1 - (lg_sl ([.ref h0])).length) Slot.unset).toArray = ls at hl ⊢
  have hl : lv_has ls 1 [(0, .ref h0)] := hl
  refine lv_aload_n hx hb dX4_init_0 rfl (lv_at hl 0 rfl) ?_
  refine W.objInit hx hb hown (hts (.methodLink RX4 3 objectInit) (by decide +kernel)) (hts (.instanceMethod objectInit) (by decide +kernel)) (hts (.code objectInit ⟨#[0xb1]⟩ 1 none) (by decide +kernel)) rfl (by rw [hml]; exact hl.1) rfl dX4_init_1 (Nat.le_of_ble_eq_true rfl) (Nat.le_of_ble_eq_true rfl) ?_
  refine W.eq (g2 := F0 m 4 ls []) rfl ?_
  refine lv_aload_n hx hb dX4_init_4 rfl (lv_at hl 0 rfl) ?_
  refine va_new (ci := 3) (fs := [.null]) (C := RX3) (T := TX3) (N := 1) hx hb hts iw_X4_init_3 tyX3 tyX3_ok hown (hts (.classLink RX4 9 RX3) (by decide +kernel)) (hts (.instantiable RX3 1) (by decide +kernel)) (hts (.initialized RX3) (by decide +kernel)) hK hP hD hS hA rfl (fun j hj => by rcases (show j = 0 by omega) with rfl <;> rfl) (Nat.le_of_ble_eq_true rfl) (Nat.le_of_ble_eq_true rfl) dX4_init_5 (fun q5 H hP hD hS => ?_)
  have hP : va_P D vwCl ([(h0, .inr (4, [.null, .null, .int 0, .int 0])), (q5, .inr (3, [.null]))]) H := hP
  have hD : va_D A ([(h0, .inr (4, [.null, .null, .int 0, .int 0])), (q5, .inr (3, [.null]))]) := hD
  refine lv_dup hx hb dX4_init_8 rfl ?_
  refine lv_bipush (v := 80) hx hb dX4_init_9 (by decide) ?_
  have hPc := hP.sub (ws' := [(q5, .inr (3, [.null]))]) [1] rfl
  have hDc := hD.sub (ws' := [(q5, .inr (3, [.null]))]) [1] (by decide) rfl
  refine lt_cWc (wc := [(q5, .inr (3, [.null]))]) (wr := [(h0, .inr (4, [.null, .null, .int 0, .int 0]))]) (va_runI (As := [.int 80]) (rest := [.ref q5, .ref h0]) ⟨hx, hb, hml, hown, hts⟩ (c_X3_init l D yI yC yO q5 80 _ (by decide)) (cwI 1 hts gX4_init_X3_init rfl rfl rfl (hts (.initialized RX3) (by decide +kernel)) (hts (.methodLink RX4 11 yX3_init) (by decide +kernel)) (hts (.instanceMethod yX3_init) (by decide +kernel)) rfl (by decide +kernel) ⟨Nat.le_of_ble_eq_true rfl, Nat.le_of_ble_eq_true rfl⟩) (lt_qS hK0 hPc hDc) rfl rfl hl.1 rfl (lv_room (Nat.le_of_ble_eq_true rfl)) dX4_init_11 ⟨Nat.le_of_ble_eq_true rfl, Nat.le_of_ble_eq_true rfl⟩) hP hD hS hA [1] [0] rfl rfl (by decide) (by decide) (fun x_11 H locs hP hD hS => ?_)
  have hP : va_P D vwCl ([(h0, .inr (4, [.null, .null, .int 0, .int 0])), (q5, .inr (3, [.ref x_11])), (x_11, .inl (yI, 80, .inl (fun _ => 0)))]) H := hP
  have hD : va_D A ([(h0, .inr (4, [.null, .null, .int 0, .int 0])), (q5, .inr (3, [.ref x_11])), (x_11, .inl (yI, 80, .inl (fun _ => 0)))]) := hD
  refine va_putF (D := D) (ci := 4) (v := .ref q5) (ty := (.object "LeafTurner$Numbers")) (C := RX4) (T := TX4) (N := 4) hx hb hts iw_X4_init_4 tyX4 tyX4_ok nmX4 hown hK hP hD hS 0 rfl rfl 0 (by decide) (hts (.fieldLink RX4 14 "LeafTurner$PageSet" "guesses" "LLeafTurner$Numbers;") (by decide +kernel)) (fun _ h9 => h9) rfl hin rfl (by decide +kernel) rfl rfl (Nat.le_of_ble_eq_true rfl) dX4_init_14 (fun H locs hP hD hS => ?_)
  have hP : va_P D vwCl ([(h0, .inr (4, [.ref q5, .null, .int 0, .int 0])), (q5, .inr (3, [.ref x_11])), (x_11, .inl (yI, 80, .inl (fun _ => 0)))]) H := hP
  have hD : va_D A ([(h0, .inr (4, [.ref q5, .null, .int 0, .int 0])), (q5, .inr (3, [.ref x_11])), (x_11, .inl (yI, 80, .inl (fun _ => 0)))]) := hD
  refine lv_aload_n hx hb dX4_init_17 rfl (lv_at hl 0 rfl) ?_
  refine va_new (ci := 3) (fs := [.null]) (C := RX3) (T := TX3) (N := 1) hx hb hts iw_X4_init_3 tyX3 tyX3_ok hown (hts (.classLink RX4 9 RX3) (by decide +kernel)) (hts (.instantiable RX3 1) (by decide +kernel)) (hts (.initialized RX3) (by decide +kernel)) hK hP hD hS hA rfl (fun j hj => by rcases (show j = 0 by omega) with rfl <;> rfl) (Nat.le_of_ble_eq_true rfl) (Nat.le_of_ble_eq_true rfl) dX4_init_18 (fun q18 H hP hD hS => ?_)
  have hP : va_P D vwCl ([(h0, .inr (4, [.ref q5, .null, .int 0, .int 0])), (q5, .inr (3, [.ref x_11])), (x_11, .inl (yI, 80, .inl (fun _ => 0))), (q18, .inr (3, [.null]))]) H := hP
  have hD : va_D A ([(h0, .inr (4, [.ref q5, .null, .int 0, .int 0])), (q5, .inr (3, [.ref x_11])), (x_11, .inl (yI, 80, .inl (fun _ => 0))), (q18, .inr (3, [.null]))]) := hD
  refine lv_dup hx hb dX4_init_21 rfl ?_
  refine lv_bipush (v := 60) hx hb dX4_init_22 (by decide) ?_
  have hPc := hP.sub (ws' := [(q18, .inr (3, [.null]))]) [3] rfl
  have hDc := hD.sub (ws' := [(q18, .inr (3, [.null]))]) [3] (by decide) rfl
  refine lt_cWc (wc := [(q18, .inr (3, [.null]))]) (wr := [(h0, .inr (4, [.ref q5, .null, .int 0, .int 0])), (q5, .inr (3, [.ref x_11])), (x_11, .inl (yI, 80, .inl (fun _ => 0)))]) (va_runI (As := [.int 60]) (rest := [.ref q18, .ref h0]) ⟨hx, hb, hml, hown, hts⟩ (c_X3_init l D yI yC yO q18 60 _ (by decide)) (cwI 1 hts gX4_init_X3_init rfl rfl rfl (hts (.initialized RX3) (by decide +kernel)) (hts (.methodLink RX4 11 yX3_init) (by decide +kernel)) (hts (.instanceMethod yX3_init) (by decide +kernel)) rfl (by decide +kernel) ⟨Nat.le_of_ble_eq_true rfl, Nat.le_of_ble_eq_true rfl⟩) (lt_qS hK0 hPc hDc) rfl rfl hl.1 rfl (lv_room (Nat.le_of_ble_eq_true rfl)) dX4_init_24 ⟨Nat.le_of_ble_eq_true rfl, Nat.le_of_ble_eq_true rfl⟩) hP hD hS hA [3] [0, 1, 2] rfl rfl (by decide) (by decide) (fun x_24 H locs hP hD hS => ?_)
  have hP : va_P D vwCl ([(h0, .inr (4, [.ref q5, .null, .int 0, .int 0])), (q5, .inr (3, [.ref x_11])), (x_11, .inl (yI, 80, .inl (fun _ => 0))), (q18, .inr (3, [.ref x_24])), (x_24, .inl (yI, 60, .inl (fun _ => 0)))]) H := hP
  have hD : va_D A ([(h0, .inr (4, [.ref q5, .null, .int 0, .int 0])), (q5, .inr (3, [.ref x_11])), (x_11, .inl (yI, 80, .inl (fun _ => 0))), (q18, .inr (3, [.ref x_24])), (x_24, .inl (yI, 60, .inl (fun _ => 0)))]) := hD
  refine va_putF (D := D) (ci := 4) (v := .ref q18) (ty := (.object "LeafTurner$Numbers")) (C := RX4) (T := TX4) (N := 4) hx hb hts iw_X4_init_4 tyX4 tyX4_ok nmX4 hown hK hP hD hS 0 rfl rfl 1 (by decide) (hts (.fieldLink RX4 20 "LeafTurner$PageSet" "chosen" "LLeafTurner$Numbers;") (by decide +kernel)) (fun _ h9 => h9) rfl hin rfl (by decide +kernel) rfl rfl (Nat.le_of_ble_eq_true rfl) dX4_init_27 (fun H locs hP hD hS => ?_)
  have hP : va_P D vwCl ([(h0, .inr (4, [.ref q5, .ref q18, .int 0, .int 0])), (q5, .inr (3, [.ref x_11])), (x_11, .inl (yI, 80, .inl (fun _ => 0))), (q18, .inr (3, [.ref x_24])), (x_24, .inl (yI, 60, .inl (fun _ => 0)))]) H := hP
  have hD : va_D A ([(h0, .inr (4, [.ref q5, .ref q18, .int 0, .int 0])), (q5, .inr (3, [.ref x_11])), (x_11, .inl (yI, 80, .inl (fun _ => 0))), (q18, .inr (3, [.ref x_24])), (x_24, .inl (yI, 60, .inl (fun _ => 0)))]) := hD
  have hP := hP.sub (ws' := lt_Pg yI (lt_b0 h0 (fun k => ([h0, q5, x_11, q18, x_24] : List Nat).getD k 0)) 0 0 (fun _ => 0) (fun _ => 0)) [0, 1, 2, 3, 4] rfl
  have hD := hD.sub (ws' := lt_Pg yI (lt_b0 h0 (fun k => ([h0, q5, x_11, q18, x_24] : List Nat).getD k 0)) 0 0 (fun _ => 0) (fun _ => 0)) [0, 1, 2, 3, 4] (by decide) rfl
  refine W.widen (k := 4) (n := 142) (Nat.le_of_ble_eq_true rfl) (Nat.le_of_ble_eq_true rfl) ?_
  exact W.vret hx hb hret (fun t ht hW => ⟨⟨(fun k => ([h0, q5, x_11, q18, x_24] : List Nat).getD k 0 : Nat → Nat), rfl, trivial, by rw [ht]; exact hP, hD⟩, hS.F ht⟩) hS.2.2 dX4_init_30

theorem iw_X6_init_0 : ∀ w ∈ wsX00, w ∈ wsX6_init := by decide +kernel
theorem iw_X6_init_6 : ∀ w ∈ wsX60, w ∈ wsX6_init := by decide +kernel
theorem iw_X6_init_5 : ∀ w ∈ wsX50, w ∈ wsX6_init := by decide +kernel
theorem iw_X6_init_3 : ∀ w ∈ wsX30, w ∈ wsX6_init := by decide +kernel
set_option maxHeartbeats 4000000 in
set_option maxRecDepth 100000 in
theorem c_X6_init (l : Launch) (D : va_G) (yI yC yO : ClassId) (h0 : Nat) (sz : Nat) : Met l yX6_init wsX6_init ({ frames := 3, cells := 18, slots := 460, locals := 90 }) (va_Pc [.ref h0] (lt_Mf D yI yC yO [(h0, .inr (6, [.null, .null, .null, .int 0, .int 0, .int 0, .int 0, .int 0, .int 0, .int 0]))] sz)) (lt_Qc D (fun (u : Nat → Nat) => lt_St yI (lt_b0 h0 u) lt_si0 lt_sa0) (va_A [(h0, .inr (6, [.null, .null, .null, .int 0, .int 0, .int 0, .int 0, .int 0, .int 0, .int 0]))] sz)) 18 460 (va_A [(h0, .inr (6, [.null, .null, .null, .int 0, .int 0, .int 0, .int 0, .int 0, .int 0, .int 0]))] sz) := by
  refine Met.ofW (cc := cX6_init) (maxL := 2) (ret := none) (by decide) rfl ?_
  intro p e s m args below meth c s₁ B0 hml hv
  obtain ⟨rfl, ⟨hsz, hP, hK0, hD0⟩, hAO, hZf⟩ := hv
  have hx := B0.exec
  have hb := B0.bytes
  have hret := B0.returns
  have hts := atoms_spec (ws := wsX6_init) B0.pre
  have hown : s.vm.findClass RX6 = some m.cls := findClass_of_methodNamed B0.named
  have hlocks := B0.notSynchronized
  have hin : meth.name = "<init>" := (name_of_methodNamed B0.named B0.method).1
  have hK := hK0.1
  have hN := hK0.2
  subst hsz
  have hD := hD0.self (sz := s.heap.size)
  generalize hAe : va_A [(h0, .inr (6, [.null, .null, .null, .int 0, .int 0, .int 0, .int 0, .int 0, .int 0, .int 0]))] s.heap.size = A at hD hZf ⊢
  have hA : ∀ q : Nat, s.heap.size ≤ q → A q := fun q h => by rw [← hAe]; exact Or.inr h
  have hS : va_S A s.heap s.heap [] := va_S.rf
  have hZf0 := hZf
  obtain ⟨tm, hZ, hTm⟩ := hZf
  have hP : va_P D vwCl [(h0, .inr (6, [.null, .null, .null, .int 0, .int 0, .int 0, .int 0, .int 0, .int 0, .int 0]))] s.heap := hP
  have hD : va_D A [(h0, .inr (6, [.null, .null, .null, .int 0, .int 0, .int 0, .int 0, .int 0, .int 0, .int 0]))] := hD
  have hl := lv_entry ([.ref h0]) (n := 2) (Nat.le_of_ble_eq_true rfl)
  rw [lg_entry_eq]
  generalize (lg_sl ([.ref h0]) ++ List.replicate (2 - (lg_sl ([.ref h0])).length) Slot.unset).toArray = ls at hl ⊢
  have hl : lv_has ls 2 [(0, .ref h0)] := hl
  refine lv_aload_n hx hb dX6_init_0 rfl (lv_at hl 0 rfl) ?_
  refine W.objInit hx hb hown (hts (.methodLink RX6 3 objectInit) (by decide +kernel)) (hts (.instanceMethod objectInit) (by decide +kernel)) (hts (.code objectInit ⟨#[0xb1]⟩ 1 none) (by decide +kernel)) rfl (by rw [hml]; exact hl.1) rfl dX6_init_1 (Nat.le_of_ble_eq_true rfl) (Nat.le_of_ble_eq_true rfl) ?_
  refine W.eq (g2 := F0 m 4 ls []) rfl ?_
  refine lv_aload_n hx hb dX6_init_4 rfl (lv_at hl 0 rfl) ?_
  refine va_new (ci := 0) (fs := [.null, .null, .null, .int 0]) (C := RX0) (T := TX0) (N := 4) hx hb hts iw_X6_init_0 tyX0 tyX0_ok hown (hts (.classLink RX6 9 RX0) (by decide +kernel)) (hts (.instantiable RX0 4) (by decide +kernel)) (hts (.initialized RX0) (by decide +kernel)) hK hP hD hS hA rfl (fun j hj => by rcases (show j = 0 ∨ j = 1 ∨ j = 2 ∨ j = 3 by omega) with rfl | rfl | rfl | rfl <;> rfl) (Nat.le_of_ble_eq_true rfl) (Nat.le_of_ble_eq_true rfl) dX6_init_5 (fun q5 H hP hD hS => ?_)
  have hP : va_P D vwCl ([(h0, .inr (6, [.null, .null, .null, .int 0, .int 0, .int 0, .int 0, .int 0, .int 0, .int 0])), (q5, .inr (0, [.null, .null, .null, .int 0]))]) H := hP
  have hD : va_D A ([(h0, .inr (6, [.null, .null, .null, .int 0, .int 0, .int 0, .int 0, .int 0, .int 0, .int 0])), (q5, .inr (0, [.null, .null, .null, .int 0]))]) := hD
  refine lv_dup hx hb dX6_init_8 rfl ?_
  have hPc := hP.sub (ws' := [(q5, .inr (0, [.null, .null, .null, .int 0]))]) [1] rfl
  have hDc := hD.sub (ws' := [(q5, .inr (0, [.null, .null, .null, .int 0]))]) [1] (by decide) rfl
  refine lt_cWc (wc := [(q5, .inr (0, [.null, .null, .null, .int 0]))]) (wr := [(h0, .inr (6, [.null, .null, .null, .int 0, .int 0, .int 0, .int 0, .int 0, .int 0, .int 0]))]) (va_runI (As := []) (rest := [.ref q5, .ref h0]) ⟨hx, hb, hml, hown, hts⟩ (c_X0_init l D yI yC yO q5 _) (cwI 0 hts gX6_init_X0_init rfl rfl rfl (hts (.initialized RX0) (by decide +kernel)) (hts (.methodLink RX6 11 yX0_init) (by decide +kernel)) (hts (.instanceMethod yX0_init) (by decide +kernel)) rfl (by decide +kernel) ⟨Nat.le_of_ble_eq_true rfl, Nat.le_of_ble_eq_true rfl⟩) (lt_qS hK0 hPc hDc) rfl rfl hl.1 rfl (lv_room (Nat.le_of_ble_eq_true rfl)) dX6_init_9 ⟨Nat.le_of_ble_eq_true rfl, Nat.le_of_ble_eq_true rfl⟩) hP hD hS hA [1] [0] rfl rfl (by decide) (by decide) (fun x_9 H locs hP hD hS => ?_)
  have hP : va_P D vwCl ([(h0, .inr (6, [.null, .null, .null, .int 0, .int 0, .int 0, .int 0, .int 0, .int 0, .int 0])), (q5, .inr (0, [.ref (x_9 2), .ref (x_9 4), .ref (x_9 6), .int 0])), (x_9 2, .inr (3, [.ref (x_9 3)])), (x_9 3, .inl (yI, 30, .inl (fun _ => 0))), (x_9 4, .inr (3, [.ref (x_9 5)])), (x_9 5, .inl (yI, 30, .inl (fun _ => 0))), (x_9 6, .inr (3, [.ref (x_9 7)])), (x_9 7, .inl (yI, 60, .inl (fun _ => 0)))]) H := hP
  have hD : va_D A ([(h0, .inr (6, [.null, .null, .null, .int 0, .int 0, .int 0, .int 0, .int 0, .int 0, .int 0])), (q5, .inr (0, [.ref (x_9 2), .ref (x_9 4), .ref (x_9 6), .int 0])), (x_9 2, .inr (3, [.ref (x_9 3)])), (x_9 3, .inl (yI, 30, .inl (fun _ => 0))), (x_9 4, .inr (3, [.ref (x_9 5)])), (x_9 5, .inl (yI, 30, .inl (fun _ => 0))), (x_9 6, .inr (3, [.ref (x_9 7)])), (x_9 7, .inl (yI, 60, .inl (fun _ => 0)))]) := hD
  refine va_putF (D := D) (ci := 6) (v := .ref q5) (ty := (.object "LeafTurner$Book")) (C := RX6) (T := TX6) (N := 10) hx hb hts iw_X6_init_6 tyX6 tyX6_ok nmX6 hown hK hP hD hS 0 rfl rfl 0 (by decide) (hts (.fieldLink RX6 12 "LeafTurner$State" "book" "LLeafTurner$Book;") (by decide +kernel)) (fun _ h9 => h9) rfl hin rfl (by decide +kernel) rfl rfl (Nat.le_of_ble_eq_true rfl) dX6_init_12 (fun H locs hP hD hS => ?_)
  have hP : va_P D vwCl ([(h0, .inr (6, [.ref q5, .null, .null, .int 0, .int 0, .int 0, .int 0, .int 0, .int 0, .int 0])), (q5, .inr (0, [.ref (x_9 2), .ref (x_9 4), .ref (x_9 6), .int 0])), (x_9 2, .inr (3, [.ref (x_9 3)])), (x_9 3, .inl (yI, 30, .inl (fun _ => 0))), (x_9 4, .inr (3, [.ref (x_9 5)])), (x_9 5, .inl (yI, 30, .inl (fun _ => 0))), (x_9 6, .inr (3, [.ref (x_9 7)])), (x_9 7, .inl (yI, 60, .inl (fun _ => 0)))]) H := hP
  have hD : va_D A ([(h0, .inr (6, [.ref q5, .null, .null, .int 0, .int 0, .int 0, .int 0, .int 0, .int 0, .int 0])), (q5, .inr (0, [.ref (x_9 2), .ref (x_9 4), .ref (x_9 6), .int 0])), (x_9 2, .inr (3, [.ref (x_9 3)])), (x_9 3, .inl (yI, 30, .inl (fun _ => 0))), (x_9 4, .inr (3, [.ref (x_9 5)])), (x_9 5, .inl (yI, 30, .inl (fun _ => 0))), (x_9 6, .inr (3, [.ref (x_9 7)])), (x_9 7, .inl (yI, 60, .inl (fun _ => 0)))]) := hD
  refine lv_aload_n hx hb dX6_init_15 rfl (lv_at hl 0 rfl) ?_
  refine va_new (ci := 5) (fs := [.null, .null, .null, .null, .int 0]) (C := RX5) (T := TX5) (N := 5) hx hb hts iw_X6_init_5 tyX5 tyX5_ok hown (hts (.classLink RX6 18 RX5) (by decide +kernel)) (hts (.instantiable RX5 5) (by decide +kernel)) (hts (.initialized RX5) (by decide +kernel)) hK hP hD hS hA rfl (fun j hj => by rcases (show j = 0 ∨ j = 1 ∨ j = 2 ∨ j = 3 ∨ j = 4 by omega) with rfl | rfl | rfl | rfl | rfl <;> rfl) (Nat.le_of_ble_eq_true rfl) (Nat.le_of_ble_eq_true rfl) dX6_init_16 (fun q16 H hP hD hS => ?_)
  have hP : va_P D vwCl ([(h0, .inr (6, [.ref q5, .null, .null, .int 0, .int 0, .int 0, .int 0, .int 0, .int 0, .int 0])), (q5, .inr (0, [.ref (x_9 2), .ref (x_9 4), .ref (x_9 6), .int 0])), (x_9 2, .inr (3, [.ref (x_9 3)])), (x_9 3, .inl (yI, 30, .inl (fun _ => 0))), (x_9 4, .inr (3, [.ref (x_9 5)])), (x_9 5, .inl (yI, 30, .inl (fun _ => 0))), (x_9 6, .inr (3, [.ref (x_9 7)])), (x_9 7, .inl (yI, 60, .inl (fun _ => 0))), (q16, .inr (5, [.null, .null, .null, .null, .int 0]))]) H := hP
  have hD : va_D A ([(h0, .inr (6, [.ref q5, .null, .null, .int 0, .int 0, .int 0, .int 0, .int 0, .int 0, .int 0])), (q5, .inr (0, [.ref (x_9 2), .ref (x_9 4), .ref (x_9 6), .int 0])), (x_9 2, .inr (3, [.ref (x_9 3)])), (x_9 3, .inl (yI, 30, .inl (fun _ => 0))), (x_9 4, .inr (3, [.ref (x_9 5)])), (x_9 5, .inl (yI, 30, .inl (fun _ => 0))), (x_9 6, .inr (3, [.ref (x_9 7)])), (x_9 7, .inl (yI, 60, .inl (fun _ => 0))), (q16, .inr (5, [.null, .null, .null, .null, .int 0]))]) := hD
  refine lv_dup hx hb dX6_init_19 rfl ?_
  have hPc := hP.sub (ws' := [(q16, .inr (5, [.null, .null, .null, .null, .int 0]))]) [8] rfl
  have hDc := hD.sub (ws' := [(q16, .inr (5, [.null, .null, .null, .null, .int 0]))]) [8] (by decide) rfl
  refine lt_cWc (wc := [(q16, .inr (5, [.null, .null, .null, .null, .int 0]))]) (wr := [(h0, .inr (6, [.ref q5, .null, .null, .int 0, .int 0, .int 0, .int 0, .int 0, .int 0, .int 0])), (q5, .inr (0, [.ref (x_9 2), .ref (x_9 4), .ref (x_9 6), .int 0])), (x_9 2, .inr (3, [.ref (x_9 3)])), (x_9 3, .inl (yI, 30, .inl (fun _ => 0))), (x_9 4, .inr (3, [.ref (x_9 5)])), (x_9 5, .inl (yI, 30, .inl (fun _ => 0))), (x_9 6, .inr (3, [.ref (x_9 7)])), (x_9 7, .inl (yI, 60, .inl (fun _ => 0)))]) (va_runI (As := []) (rest := [.ref q16, .ref h0]) ⟨hx, hb, hml, hown, hts⟩ (c_X5_init l D yI yC yO q16 _) (cwI 0 hts gX6_init_X5_init rfl rfl rfl (hts (.initialized RX5) (by decide +kernel)) (hts (.methodLink RX6 20 yX5_init) (by decide +kernel)) (hts (.instanceMethod yX5_init) (by decide +kernel)) rfl (by decide +kernel) ⟨Nat.le_of_ble_eq_true rfl, Nat.le_of_ble_eq_true rfl⟩) (lt_qS hK0 hPc hDc) rfl rfl hl.1 rfl (lv_room (Nat.le_of_ble_eq_true rfl)) dX6_init_20 ⟨Nat.le_of_ble_eq_true rfl, Nat.le_of_ble_eq_true rfl⟩) hP hD hS hA [8] [0, 1, 2, 3, 4, 5, 6, 7] rfl rfl (by decide) (by decide) (fun x_20 H locs hP hD hS => ?_)
  have hP : va_P D vwCl ([(h0, .inr (6, [.ref q5, .null, .null, .int 0, .int 0, .int 0, .int 0, .int 0, .int 0, .int 0])), (q5, .inr (0, [.ref (x_9 2), .ref (x_9 4), .ref (x_9 6), .int 0])), (x_9 2, .inr (3, [.ref (x_9 3)])), (x_9 3, .inl (yI, 30, .inl (fun _ => 0))), (x_9 4, .inr (3, [.ref (x_9 5)])), (x_9 5, .inl (yI, 30, .inl (fun _ => 0))), (x_9 6, .inr (3, [.ref (x_9 7)])), (x_9 7, .inl (yI, 60, .inl (fun _ => 0))), (q16, .inr (5, [.ref (x_20 9), .ref (x_20 11), .ref (x_20 13), .ref (x_20 15), .int 0])), (x_20 9, .inr (3, [.ref (x_20 10)])), (x_20 10, .inl (yI, 80, .inl (fun _ => 0))), (x_20 11, .inr (3, [.ref (x_20 12)])), (x_20 12, .inl (yI, 80, .inl (fun _ => 0))), (x_20 13, .inr (3, [.ref (x_20 14)])), (x_20 14, .inl (yI, 80, .inl (fun _ => 0))), (x_20 15, .inr (3, [.ref (x_20 16)])), (x_20 16, .inl (yI, 80, .inl (fun _ => 0)))]) H := hP
  have hD : va_D A ([(h0, .inr (6, [.ref q5, .null, .null, .int 0, .int 0, .int 0, .int 0, .int 0, .int 0, .int 0])), (q5, .inr (0, [.ref (x_9 2), .ref (x_9 4), .ref (x_9 6), .int 0])), (x_9 2, .inr (3, [.ref (x_9 3)])), (x_9 3, .inl (yI, 30, .inl (fun _ => 0))), (x_9 4, .inr (3, [.ref (x_9 5)])), (x_9 5, .inl (yI, 30, .inl (fun _ => 0))), (x_9 6, .inr (3, [.ref (x_9 7)])), (x_9 7, .inl (yI, 60, .inl (fun _ => 0))), (q16, .inr (5, [.ref (x_20 9), .ref (x_20 11), .ref (x_20 13), .ref (x_20 15), .int 0])), (x_20 9, .inr (3, [.ref (x_20 10)])), (x_20 10, .inl (yI, 80, .inl (fun _ => 0))), (x_20 11, .inr (3, [.ref (x_20 12)])), (x_20 12, .inl (yI, 80, .inl (fun _ => 0))), (x_20 13, .inr (3, [.ref (x_20 14)])), (x_20 14, .inl (yI, 80, .inl (fun _ => 0))), (x_20 15, .inr (3, [.ref (x_20 16)])), (x_20 16, .inl (yI, 80, .inl (fun _ => 0)))]) := hD
  refine va_putF (D := D) (ci := 6) (v := .ref q16) (ty := (.object "LeafTurner$Pictures")) (C := RX6) (T := TX6) (N := 10) hx hb hts iw_X6_init_6 tyX6 tyX6_ok nmX6 hown hK hP hD hS 0 rfl rfl 1 (by decide) (hts (.fieldLink RX6 21 "LeafTurner$State" "pictures" "LLeafTurner$Pictures;") (by decide +kernel)) (fun _ h9 => h9) rfl hin rfl (by decide +kernel) rfl rfl (Nat.le_of_ble_eq_true rfl) dX6_init_23 (fun H locs hP hD hS => ?_)
  have hP : va_P D vwCl ([(h0, .inr (6, [.ref q5, .ref q16, .null, .int 0, .int 0, .int 0, .int 0, .int 0, .int 0, .int 0])), (q5, .inr (0, [.ref (x_9 2), .ref (x_9 4), .ref (x_9 6), .int 0])), (x_9 2, .inr (3, [.ref (x_9 3)])), (x_9 3, .inl (yI, 30, .inl (fun _ => 0))), (x_9 4, .inr (3, [.ref (x_9 5)])), (x_9 5, .inl (yI, 30, .inl (fun _ => 0))), (x_9 6, .inr (3, [.ref (x_9 7)])), (x_9 7, .inl (yI, 60, .inl (fun _ => 0))), (q16, .inr (5, [.ref (x_20 9), .ref (x_20 11), .ref (x_20 13), .ref (x_20 15), .int 0])), (x_20 9, .inr (3, [.ref (x_20 10)])), (x_20 10, .inl (yI, 80, .inl (fun _ => 0))), (x_20 11, .inr (3, [.ref (x_20 12)])), (x_20 12, .inl (yI, 80, .inl (fun _ => 0))), (x_20 13, .inr (3, [.ref (x_20 14)])), (x_20 14, .inl (yI, 80, .inl (fun _ => 0))), (x_20 15, .inr (3, [.ref (x_20 16)])), (x_20 16, .inl (yI, 80, .inl (fun _ => 0)))]) H := hP
  have hD : va_D A ([(h0, .inr (6, [.ref q5, .ref q16, .null, .int 0, .int 0, .int 0, .int 0, .int 0, .int 0, .int 0])), (q5, .inr (0, [.ref (x_9 2), .ref (x_9 4), .ref (x_9 6), .int 0])), (x_9 2, .inr (3, [.ref (x_9 3)])), (x_9 3, .inl (yI, 30, .inl (fun _ => 0))), (x_9 4, .inr (3, [.ref (x_9 5)])), (x_9 5, .inl (yI, 30, .inl (fun _ => 0))), (x_9 6, .inr (3, [.ref (x_9 7)])), (x_9 7, .inl (yI, 60, .inl (fun _ => 0))), (q16, .inr (5, [.ref (x_20 9), .ref (x_20 11), .ref (x_20 13), .ref (x_20 15), .int 0])), (x_20 9, .inr (3, [.ref (x_20 10)])), (x_20 10, .inl (yI, 80, .inl (fun _ => 0))), (x_20 11, .inr (3, [.ref (x_20 12)])), (x_20 12, .inl (yI, 80, .inl (fun _ => 0))), (x_20 13, .inr (3, [.ref (x_20 14)])), (x_20 14, .inl (yI, 80, .inl (fun _ => 0))), (x_20 15, .inr (3, [.ref (x_20 16)])), (x_20 16, .inl (yI, 80, .inl (fun _ => 0)))]) := hD
  refine lv_aload_n hx hb dX6_init_26 rfl (lv_at hl 0 rfl) ?_
  refine va_new (ci := 3) (fs := [.null]) (C := RX3) (T := TX3) (N := 1) hx hb hts iw_X6_init_3 tyX3 tyX3_ok hown (hts (.classLink RX6 25 RX3) (by decide +kernel)) (hts (.instantiable RX3 1) (by decide +kernel)) (hts (.initialized RX3) (by decide +kernel)) hK hP hD hS hA rfl (fun j hj => by rcases (show j = 0 by omega) with rfl <;> rfl) (Nat.le_of_ble_eq_true rfl) (Nat.le_of_ble_eq_true rfl) dX6_init_27 (fun q27 H hP hD hS => ?_)
  have hP : va_P D vwCl ([(h0, .inr (6, [.ref q5, .ref q16, .null, .int 0, .int 0, .int 0, .int 0, .int 0, .int 0, .int 0])), (q5, .inr (0, [.ref (x_9 2), .ref (x_9 4), .ref (x_9 6), .int 0])), (x_9 2, .inr (3, [.ref (x_9 3)])), (x_9 3, .inl (yI, 30, .inl (fun _ => 0))), (x_9 4, .inr (3, [.ref (x_9 5)])), (x_9 5, .inl (yI, 30, .inl (fun _ => 0))), (x_9 6, .inr (3, [.ref (x_9 7)])), (x_9 7, .inl (yI, 60, .inl (fun _ => 0))), (q16, .inr (5, [.ref (x_20 9), .ref (x_20 11), .ref (x_20 13), .ref (x_20 15), .int 0])), (x_20 9, .inr (3, [.ref (x_20 10)])), (x_20 10, .inl (yI, 80, .inl (fun _ => 0))), (x_20 11, .inr (3, [.ref (x_20 12)])), (x_20 12, .inl (yI, 80, .inl (fun _ => 0))), (x_20 13, .inr (3, [.ref (x_20 14)])), (x_20 14, .inl (yI, 80, .inl (fun _ => 0))), (x_20 15, .inr (3, [.ref (x_20 16)])), (x_20 16, .inl (yI, 80, .inl (fun _ => 0))), (q27, .inr (3, [.null]))]) H := hP
  have hD : va_D A ([(h0, .inr (6, [.ref q5, .ref q16, .null, .int 0, .int 0, .int 0, .int 0, .int 0, .int 0, .int 0])), (q5, .inr (0, [.ref (x_9 2), .ref (x_9 4), .ref (x_9 6), .int 0])), (x_9 2, .inr (3, [.ref (x_9 3)])), (x_9 3, .inl (yI, 30, .inl (fun _ => 0))), (x_9 4, .inr (3, [.ref (x_9 5)])), (x_9 5, .inl (yI, 30, .inl (fun _ => 0))), (x_9 6, .inr (3, [.ref (x_9 7)])), (x_9 7, .inl (yI, 60, .inl (fun _ => 0))), (q16, .inr (5, [.ref (x_20 9), .ref (x_20 11), .ref (x_20 13), .ref (x_20 15), .int 0])), (x_20 9, .inr (3, [.ref (x_20 10)])), (x_20 10, .inl (yI, 80, .inl (fun _ => 0))), (x_20 11, .inr (3, [.ref (x_20 12)])), (x_20 12, .inl (yI, 80, .inl (fun _ => 0))), (x_20 13, .inr (3, [.ref (x_20 14)])), (x_20 14, .inl (yI, 80, .inl (fun _ => 0))), (x_20 15, .inr (3, [.ref (x_20 16)])), (x_20 16, .inl (yI, 80, .inl (fun _ => 0))), (q27, .inr (3, [.null]))]) := hD
  refine lv_dup hx hb dX6_init_30 rfl ?_
  refine va_getsN hx hb hZ hS hown (va_Nw.use rfl (hN _ lt_nw17)) (fun _ h => h) dX6_init_31 ?_
  refine va_tlen hx hb hTm hS (v := 3) rfl dX6_init_34 ?_
  have hPc := hP.sub (ws' := [(q27, .inr (3, [.null]))]) [17] rfl
  have hDc := hD.sub (ws' := [(q27, .inr (3, [.null]))]) [17] (by decide) rfl
  refine lt_cWc (wc := [(q27, .inr (3, [.null]))]) (wr := [(h0, .inr (6, [.ref q5, .ref q16, .null, .int 0, .int 0, .int 0, .int 0, .int 0, .int 0, .int 0])), (q5, .inr (0, [.ref (x_9 2), .ref (x_9 4), .ref (x_9 6), .int 0])), (x_9 2, .inr (3, [.ref (x_9 3)])), (x_9 3, .inl (yI, 30, .inl (fun _ => 0))), (x_9 4, .inr (3, [.ref (x_9 5)])), (x_9 5, .inl (yI, 30, .inl (fun _ => 0))), (x_9 6, .inr (3, [.ref (x_9 7)])), (x_9 7, .inl (yI, 60, .inl (fun _ => 0))), (q16, .inr (5, [.ref (x_20 9), .ref (x_20 11), .ref (x_20 13), .ref (x_20 15), .int 0])), (x_20 9, .inr (3, [.ref (x_20 10)])), (x_20 10, .inl (yI, 80, .inl (fun _ => 0))), (x_20 11, .inr (3, [.ref (x_20 12)])), (x_20 12, .inl (yI, 80, .inl (fun _ => 0))), (x_20 13, .inr (3, [.ref (x_20 14)])), (x_20 14, .inl (yI, 80, .inl (fun _ => 0))), (x_20 15, .inr (3, [.ref (x_20 16)])), (x_20 16, .inl (yI, 80, .inl (fun _ => 0)))]) (va_runI (As := [.int 3]) (rest := [.ref q27, .ref h0]) ⟨hx, hb, hml, hown, hts⟩ (c_X3_init l D yI yC yO q27 3 _ (by decide)) (cwI 1 hts gX6_init_X3_init rfl rfl rfl (hts (.initialized RX3) (by decide +kernel)) (hts (.methodLink RX6 31 yX3_init) (by decide +kernel)) (hts (.instanceMethod yX3_init) (by decide +kernel)) rfl (by decide +kernel) ⟨Nat.le_of_ble_eq_true rfl, Nat.le_of_ble_eq_true rfl⟩) (lt_qS hK0 hPc hDc) rfl rfl hl.1 rfl (lv_room (Nat.le_of_ble_eq_true rfl)) dX6_init_35 ⟨Nat.le_of_ble_eq_true rfl, Nat.le_of_ble_eq_true rfl⟩) hP hD hS hA [17] [0, 1, 2, 3, 4, 5, 6, 7, 8, 9, 10, 11, 12, 13, 14, 15, 16] rfl rfl (by decide) (by decide) (fun x_35 H locs hP hD hS => ?_)
  have hP : va_P D vwCl ([(h0, .inr (6, [.ref q5, .ref q16, .null, .int 0, .int 0, .int 0, .int 0, .int 0, .int 0, .int 0])), (q5, .inr (0, [.ref (x_9 2), .ref (x_9 4), .ref (x_9 6), .int 0])), (x_9 2, .inr (3, [.ref (x_9 3)])), (x_9 3, .inl (yI, 30, .inl (fun _ => 0))), (x_9 4, .inr (3, [.ref (x_9 5)])), (x_9 5, .inl (yI, 30, .inl (fun _ => 0))), (x_9 6, .inr (3, [.ref (x_9 7)])), (x_9 7, .inl (yI, 60, .inl (fun _ => 0))), (q16, .inr (5, [.ref (x_20 9), .ref (x_20 11), .ref (x_20 13), .ref (x_20 15), .int 0])), (x_20 9, .inr (3, [.ref (x_20 10)])), (x_20 10, .inl (yI, 80, .inl (fun _ => 0))), (x_20 11, .inr (3, [.ref (x_20 12)])), (x_20 12, .inl (yI, 80, .inl (fun _ => 0))), (x_20 13, .inr (3, [.ref (x_20 14)])), (x_20 14, .inl (yI, 80, .inl (fun _ => 0))), (x_20 15, .inr (3, [.ref (x_20 16)])), (x_20 16, .inl (yI, 80, .inl (fun _ => 0))), (q27, .inr (3, [.ref x_35])), (x_35, .inl (yI, 3, .inl (fun _ => 0)))]) H := hP
  have hD : va_D A ([(h0, .inr (6, [.ref q5, .ref q16, .null, .int 0, .int 0, .int 0, .int 0, .int 0, .int 0, .int 0])), (q5, .inr (0, [.ref (x_9 2), .ref (x_9 4), .ref (x_9 6), .int 0])), (x_9 2, .inr (3, [.ref (x_9 3)])), (x_9 3, .inl (yI, 30, .inl (fun _ => 0))), (x_9 4, .inr (3, [.ref (x_9 5)])), (x_9 5, .inl (yI, 30, .inl (fun _ => 0))), (x_9 6, .inr (3, [.ref (x_9 7)])), (x_9 7, .inl (yI, 60, .inl (fun _ => 0))), (q16, .inr (5, [.ref (x_20 9), .ref (x_20 11), .ref (x_20 13), .ref (x_20 15), .int 0])), (x_20 9, .inr (3, [.ref (x_20 10)])), (x_20 10, .inl (yI, 80, .inl (fun _ => 0))), (x_20 11, .inr (3, [.ref (x_20 12)])), (x_20 12, .inl (yI, 80, .inl (fun _ => 0))), (x_20 13, .inr (3, [.ref (x_20 14)])), (x_20 14, .inl (yI, 80, .inl (fun _ => 0))), (x_20 15, .inr (3, [.ref (x_20 16)])), (x_20 16, .inl (yI, 80, .inl (fun _ => 0))), (q27, .inr (3, [.ref x_35])), (x_35, .inl (yI, 3, .inl (fun _ => 0)))]) := hD
  refine va_putF (D := D) (ci := 6) (v := .ref q27) (ty := (.object "LeafTurner$Numbers")) (C := RX6) (T := TX6) (N := 10) hx hb hts iw_X6_init_6 tyX6 tyX6_ok nmX6 hown hK hP hD hS 0 rfl rfl 2 (by decide) (hts (.fieldLink RX6 34 "LeafTurner$State" "settings" "LLeafTurner$Numbers;") (by decide +kernel)) (fun _ h9 => h9) rfl hin rfl (by decide +kernel) rfl rfl (Nat.le_of_ble_eq_true rfl) dX6_init_38 (fun H locs hP hD hS => ?_)
  have hP : va_P D vwCl ([(h0, .inr (6, [.ref q5, .ref q16, .ref q27, .int 0, .int 0, .int 0, .int 0, .int 0, .int 0, .int 0])), (q5, .inr (0, [.ref (x_9 2), .ref (x_9 4), .ref (x_9 6), .int 0])), (x_9 2, .inr (3, [.ref (x_9 3)])), (x_9 3, .inl (yI, 30, .inl (fun _ => 0))), (x_9 4, .inr (3, [.ref (x_9 5)])), (x_9 5, .inl (yI, 30, .inl (fun _ => 0))), (x_9 6, .inr (3, [.ref (x_9 7)])), (x_9 7, .inl (yI, 60, .inl (fun _ => 0))), (q16, .inr (5, [.ref (x_20 9), .ref (x_20 11), .ref (x_20 13), .ref (x_20 15), .int 0])), (x_20 9, .inr (3, [.ref (x_20 10)])), (x_20 10, .inl (yI, 80, .inl (fun _ => 0))), (x_20 11, .inr (3, [.ref (x_20 12)])), (x_20 12, .inl (yI, 80, .inl (fun _ => 0))), (x_20 13, .inr (3, [.ref (x_20 14)])), (x_20 14, .inl (yI, 80, .inl (fun _ => 0))), (x_20 15, .inr (3, [.ref (x_20 16)])), (x_20 16, .inl (yI, 80, .inl (fun _ => 0))), (q27, .inr (3, [.ref x_35])), (x_35, .inl (yI, 3, .inl (fun _ => 0)))]) H := hP
  have hD : va_D A ([(h0, .inr (6, [.ref q5, .ref q16, .ref q27, .int 0, .int 0, .int 0, .int 0, .int 0, .int 0, .int 0])), (q5, .inr (0, [.ref (x_9 2), .ref (x_9 4), .ref (x_9 6), .int 0])), (x_9 2, .inr (3, [.ref (x_9 3)])), (x_9 3, .inl (yI, 30, .inl (fun _ => 0))), (x_9 4, .inr (3, [.ref (x_9 5)])), (x_9 5, .inl (yI, 30, .inl (fun _ => 0))), (x_9 6, .inr (3, [.ref (x_9 7)])), (x_9 7, .inl (yI, 60, .inl (fun _ => 0))), (q16, .inr (5, [.ref (x_20 9), .ref (x_20 11), .ref (x_20 13), .ref (x_20 15), .int 0])), (x_20 9, .inr (3, [.ref (x_20 10)])), (x_20 10, .inl (yI, 80, .inl (fun _ => 0))), (x_20 11, .inr (3, [.ref (x_20 12)])), (x_20 12, .inl (yI, 80, .inl (fun _ => 0))), (x_20 13, .inr (3, [.ref (x_20 14)])), (x_20 14, .inl (yI, 80, .inl (fun _ => 0))), (x_20 15, .inr (3, [.ref (x_20 16)])), (x_20 16, .inl (yI, 80, .inl (fun _ => 0))), (q27, .inr (3, [.ref x_35])), (x_35, .inl (yI, 3, .inl (fun _ => 0)))]) := hD
  refine lv_iconst (v := 0) hx hb dX6_init_41 (by decide) ?_
  refine lv_istore_n (lv' := [(1, .int 0), (0, .ref h0)]) hx hb dX6_init_42 rfl hl (by decide) rfl (fun ls hl => ?_)
  refine lv_iload_n hx hb dX6_init_43 rfl (lv_at hl 0 rfl) ?_
  refine va_getsN hx hb hZ hS hown (va_Nw.use rfl (hN _ lt_nw17)) (fun _ h => h) dX6_init_44 ?_
  refine va_tlen hx hb hTm hS (v := 3) rfl dX6_init_47 ?_
  refine lv_icmp_ge (tgt := 70) hx hb dX6_init_48 (by decide) (fun c => absurd c (by decide)) (fun _ => ?_)
  refine lv_aload_n hx hb dX6_init_51 rfl (lv_at hl 1 rfl) ?_
  refine va_get (D := D) (ci := 6) (v := .ref q27) (C := RX6) (T := TX6) (N := 10) hx hb hts iw_X6_init_6 hown hK hP 0 rfl rfl 2 (by decide) (hts (.fieldLink RX6 34 "LeafTurner$State" "settings" "LLeafTurner$Numbers;") (by decide +kernel)) (fun _ h9 => h9) rfl dX6_init_52 ?_
  refine lv_iload_n hx hb dX6_init_55 rfl (lv_at hl 0 rfl) ?_
  refine va_getsN hx hb hZ hS hown (va_Nw.use rfl (hN _ lt_nw17)) (fun _ h => h) dX6_init_56 ?_
  refine lv_iload_n hx hb dX6_init_59 rfl (lv_at hl 0 rfl) ?_
  refine va_ti hx hb hTm hS (i := 0) (vp_in_iff.mpr (by decide)) rfl dX6_init_60 ?_
  refine lt_top (y := 2) rfl ?_
  have hPc := hP.sub (ws' := lt_N2 yI q27 x_35 3 (fun _ => 0)) [17, 18] rfl
  have hDc := hD.sub (ws' := lt_N2 yI q27 x_35 3 (fun _ => 0)) [17, 18] (by decide) rfl
  refine lt_cWv0 (wc := lt_N2 yI q27 x_35 3 (fun _ => 0)) (wr := [(h0, .inr (6, [.ref q5, .ref q16, .ref q27, .int 0, .int 0, .int 0, .int 0, .int 0, .int 0, .int 0])), (q5, .inr (0, [.ref (x_9 2), .ref (x_9 4), .ref (x_9 6), .int 0])), (x_9 2, .inr (3, [.ref (x_9 3)])), (x_9 3, .inl (yI, 30, .inl (fun _ => 0))), (x_9 4, .inr (3, [.ref (x_9 5)])), (x_9 5, .inl (yI, 30, .inl (fun _ => 0))), (x_9 6, .inr (3, [.ref (x_9 7)])), (x_9 7, .inl (yI, 60, .inl (fun _ => 0))), (q16, .inr (5, [.ref (x_20 9), .ref (x_20 11), .ref (x_20 13), .ref (x_20 15), .int 0])), (x_20 9, .inr (3, [.ref (x_20 10)])), (x_20 10, .inl (yI, 80, .inl (fun _ => 0))), (x_20 11, .inr (3, [.ref (x_20 12)])), (x_20 12, .inl (yI, 80, .inl (fun _ => 0))), (x_20 13, .inr (3, [.ref (x_20 14)])), (x_20 14, .inl (yI, 80, .inl (fun _ => 0))), (x_20 15, .inr (3, [.ref (x_20 16)])), (x_20 16, .inl (yI, 80, .inl (fun _ => 0)))]) (va_runV (As := [.int 0, .int 2]) (rest := []) ⟨hx, hb, hml, hown, hts⟩ (c_X3_put l D yI yC yO q27 x_35 3 (fun _ => 0) 0 2 _ (by decide)) (cwV 2 hts gX6_init_X3_put rfl rfl rfl (by decide +kernel) ⟨Nat.le_of_ble_eq_true rfl, Nat.le_of_ble_eq_true rfl⟩) (lt_qV hK0 hPc hDc (va_recv hK hPc (ci := 3) (q0 := 0) rfl rfl)) rfl rfl hl.1 rfl (lv_room (Nat.le_of_ble_eq_true rfl)) dX6_init_61 ⟨Nat.le_of_ble_eq_true rfl, Nat.le_of_ble_eq_true rfl⟩) hP hD hS hA [17, 18] [0, 1, 2, 3, 4, 5, 6, 7, 8, 9, 10, 11, 12, 13, 14, 15, 16] rfl rfl (by decide) (by decide) (fun H locs hP hD hS => ?_)
  have hP := hP.sub (ws' := [(h0, .inr (6, [.ref q5, .ref q16, .ref q27, .int 0, .int 0, .int 0, .int 0, .int 0, .int 0, .int 0])), (q5, .inr (0, [.ref (x_9 2), .ref (x_9 4), .ref (x_9 6), .int 0])), (x_9 2, .inr (3, [.ref (x_9 3)])), (x_9 3, .inl (yI, 30, .inl (fun _ => 0))), (x_9 4, .inr (3, [.ref (x_9 5)])), (x_9 5, .inl (yI, 30, .inl (fun _ => 0))), (x_9 6, .inr (3, [.ref (x_9 7)])), (x_9 7, .inl (yI, 60, .inl (fun _ => 0))), (q16, .inr (5, [.ref (x_20 9), .ref (x_20 11), .ref (x_20 13), .ref (x_20 15), .int 0])), (x_20 9, .inr (3, [.ref (x_20 10)])), (x_20 10, .inl (yI, 80, .inl (fun _ => 0))), (x_20 11, .inr (3, [.ref (x_20 12)])), (x_20 12, .inl (yI, 80, .inl (fun _ => 0))), (x_20 13, .inr (3, [.ref (x_20 14)])), (x_20 14, .inl (yI, 80, .inl (fun _ => 0))), (x_20 15, .inr (3, [.ref (x_20 16)])), (x_20 16, .inl (yI, 80, .inl (fun _ => 0))), (q27, .inr (3, [.ref x_35])), (x_35, .inl (yI, 3, .inl (X3_put 3 (fun _ => 0) 0 2)))]) [0, 1, 2, 3, 4, 5, 6, 7, 8, 9, 10, 11, 12, 13, 14, 15, 16, 17, 18] rfl
  have hD := hD.sub (ws' := [(h0, .inr (6, [.ref q5, .ref q16, .ref q27, .int 0, .int 0, .int 0, .int 0, .int 0, .int 0, .int 0])), (q5, .inr (0, [.ref (x_9 2), .ref (x_9 4), .ref (x_9 6), .int 0])), (x_9 2, .inr (3, [.ref (x_9 3)])), (x_9 3, .inl (yI, 30, .inl (fun _ => 0))), (x_9 4, .inr (3, [.ref (x_9 5)])), (x_9 5, .inl (yI, 30, .inl (fun _ => 0))), (x_9 6, .inr (3, [.ref (x_9 7)])), (x_9 7, .inl (yI, 60, .inl (fun _ => 0))), (q16, .inr (5, [.ref (x_20 9), .ref (x_20 11), .ref (x_20 13), .ref (x_20 15), .int 0])), (x_20 9, .inr (3, [.ref (x_20 10)])), (x_20 10, .inl (yI, 80, .inl (fun _ => 0))), (x_20 11, .inr (3, [.ref (x_20 12)])), (x_20 12, .inl (yI, 80, .inl (fun _ => 0))), (x_20 13, .inr (3, [.ref (x_20 14)])), (x_20 14, .inl (yI, 80, .inl (fun _ => 0))), (x_20 15, .inr (3, [.ref (x_20 16)])), (x_20 16, .inl (yI, 80, .inl (fun _ => 0))), (q27, .inr (3, [.ref x_35])), (x_35, .inl (yI, 3, .inl (X3_put 3 (fun _ => 0) 0 2)))]) [0, 1, 2, 3, 4, 5, 6, 7, 8, 9, 10, 11, 12, 13, 14, 15, 16, 17, 18] (by decide) rfl
  refine lv_iinc (v := 1) (lv' := [(1, .int 1), (0, .ref h0)]) hx hb dX6_init_64 hl (k := 0) rfl (by decide) (by decide) rfl (fun ls hl => ?_)
  refine lv_goto (tgt := 43) hx hb dX6_init_67 (by decide) ?_
  refine lv_iload_n hx hb dX6_init_43 rfl (lv_at hl 0 rfl) ?_
  refine va_getsN hx hb hZ hS hown (va_Nw.use rfl (hN _ lt_nw17)) (fun _ h => h) dX6_init_44 ?_
  refine va_tlen hx hb hTm hS (v := 3) rfl dX6_init_47 ?_
  refine lv_icmp_ge (tgt := 70) hx hb dX6_init_48 (by decide) (fun c => absurd c (by decide)) (fun _ => ?_)
  refine lv_aload_n hx hb dX6_init_51 rfl (lv_at hl 1 rfl) ?_
  refine va_get (D := D) (ci := 6) (v := .ref q27) (C := RX6) (T := TX6) (N := 10) hx hb hts iw_X6_init_6 hown hK hP 0 rfl rfl 2 (by decide) (hts (.fieldLink RX6 34 "LeafTurner$State" "settings" "LLeafTurner$Numbers;") (by decide +kernel)) (fun _ h9 => h9) rfl dX6_init_52 ?_
  refine lv_iload_n hx hb dX6_init_55 rfl (lv_at hl 0 rfl) ?_
  refine va_getsN hx hb hZ hS hown (va_Nw.use rfl (hN _ lt_nw17)) (fun _ h => h) dX6_init_56 ?_
  refine lv_iload_n hx hb dX6_init_59 rfl (lv_at hl 0 rfl) ?_
  refine va_ti hx hb hTm hS (i := 1) (vp_in_iff.mpr (by decide)) rfl dX6_init_60 ?_
  refine lt_top (y := 0) rfl ?_
  have hPc := hP.sub (ws' := lt_N2 yI q27 x_35 3 (X3_put 3 (fun _ => 0) 0 2)) [17, 18] rfl
  have hDc := hD.sub (ws' := lt_N2 yI q27 x_35 3 (X3_put 3 (fun _ => 0) 0 2)) [17, 18] (by decide) rfl
  refine lt_cWv0 (wc := lt_N2 yI q27 x_35 3 (X3_put 3 (fun _ => 0) 0 2)) (wr := [(h0, .inr (6, [.ref q5, .ref q16, .ref q27, .int 0, .int 0, .int 0, .int 0, .int 0, .int 0, .int 0])), (q5, .inr (0, [.ref (x_9 2), .ref (x_9 4), .ref (x_9 6), .int 0])), (x_9 2, .inr (3, [.ref (x_9 3)])), (x_9 3, .inl (yI, 30, .inl (fun _ => 0))), (x_9 4, .inr (3, [.ref (x_9 5)])), (x_9 5, .inl (yI, 30, .inl (fun _ => 0))), (x_9 6, .inr (3, [.ref (x_9 7)])), (x_9 7, .inl (yI, 60, .inl (fun _ => 0))), (q16, .inr (5, [.ref (x_20 9), .ref (x_20 11), .ref (x_20 13), .ref (x_20 15), .int 0])), (x_20 9, .inr (3, [.ref (x_20 10)])), (x_20 10, .inl (yI, 80, .inl (fun _ => 0))), (x_20 11, .inr (3, [.ref (x_20 12)])), (x_20 12, .inl (yI, 80, .inl (fun _ => 0))), (x_20 13, .inr (3, [.ref (x_20 14)])), (x_20 14, .inl (yI, 80, .inl (fun _ => 0))), (x_20 15, .inr (3, [.ref (x_20 16)])), (x_20 16, .inl (yI, 80, .inl (fun _ => 0)))]) (va_runV (As := [.int 1, .int 0]) (rest := []) ⟨hx, hb, hml, hown, hts⟩ (c_X3_put l D yI yC yO q27 x_35 3 (X3_put 3 (fun _ => 0) 0 2) 1 0 _ (by decide)) (cwV 2 hts gX6_init_X3_put rfl rfl rfl (by decide +kernel) ⟨Nat.le_of_ble_eq_true rfl, Nat.le_of_ble_eq_true rfl⟩) (lt_qV hK0 hPc hDc (va_recv hK hPc (ci := 3) (q0 := 0) rfl rfl)) rfl rfl hl.1 rfl (lv_room (Nat.le_of_ble_eq_true rfl)) dX6_init_61 ⟨Nat.le_of_ble_eq_true rfl, Nat.le_of_ble_eq_true rfl⟩) hP hD hS hA [17, 18] [0, 1, 2, 3, 4, 5, 6, 7, 8, 9, 10, 11, 12, 13, 14, 15, 16] rfl rfl (by decide) (by decide) (fun H locs hP hD hS => ?_)
  have hP := hP.sub (ws' := [(h0, .inr (6, [.ref q5, .ref q16, .ref q27, .int 0, .int 0, .int 0, .int 0, .int 0, .int 0, .int 0])), (q5, .inr (0, [.ref (x_9 2), .ref (x_9 4), .ref (x_9 6), .int 0])), (x_9 2, .inr (3, [.ref (x_9 3)])), (x_9 3, .inl (yI, 30, .inl (fun _ => 0))), (x_9 4, .inr (3, [.ref (x_9 5)])), (x_9 5, .inl (yI, 30, .inl (fun _ => 0))), (x_9 6, .inr (3, [.ref (x_9 7)])), (x_9 7, .inl (yI, 60, .inl (fun _ => 0))), (q16, .inr (5, [.ref (x_20 9), .ref (x_20 11), .ref (x_20 13), .ref (x_20 15), .int 0])), (x_20 9, .inr (3, [.ref (x_20 10)])), (x_20 10, .inl (yI, 80, .inl (fun _ => 0))), (x_20 11, .inr (3, [.ref (x_20 12)])), (x_20 12, .inl (yI, 80, .inl (fun _ => 0))), (x_20 13, .inr (3, [.ref (x_20 14)])), (x_20 14, .inl (yI, 80, .inl (fun _ => 0))), (x_20 15, .inr (3, [.ref (x_20 16)])), (x_20 16, .inl (yI, 80, .inl (fun _ => 0))), (q27, .inr (3, [.ref x_35])), (x_35, .inl (yI, 3, .inl (X3_put 3 (X3_put 3 (fun _ => 0) 0 2) 1 0)))]) [0, 1, 2, 3, 4, 5, 6, 7, 8, 9, 10, 11, 12, 13, 14, 15, 16, 17, 18] rfl
  have hD := hD.sub (ws' := [(h0, .inr (6, [.ref q5, .ref q16, .ref q27, .int 0, .int 0, .int 0, .int 0, .int 0, .int 0, .int 0])), (q5, .inr (0, [.ref (x_9 2), .ref (x_9 4), .ref (x_9 6), .int 0])), (x_9 2, .inr (3, [.ref (x_9 3)])), (x_9 3, .inl (yI, 30, .inl (fun _ => 0))), (x_9 4, .inr (3, [.ref (x_9 5)])), (x_9 5, .inl (yI, 30, .inl (fun _ => 0))), (x_9 6, .inr (3, [.ref (x_9 7)])), (x_9 7, .inl (yI, 60, .inl (fun _ => 0))), (q16, .inr (5, [.ref (x_20 9), .ref (x_20 11), .ref (x_20 13), .ref (x_20 15), .int 0])), (x_20 9, .inr (3, [.ref (x_20 10)])), (x_20 10, .inl (yI, 80, .inl (fun _ => 0))), (x_20 11, .inr (3, [.ref (x_20 12)])), (x_20 12, .inl (yI, 80, .inl (fun _ => 0))), (x_20 13, .inr (3, [.ref (x_20 14)])), (x_20 14, .inl (yI, 80, .inl (fun _ => 0))), (x_20 15, .inr (3, [.ref (x_20 16)])), (x_20 16, .inl (yI, 80, .inl (fun _ => 0))), (q27, .inr (3, [.ref x_35])), (x_35, .inl (yI, 3, .inl (X3_put 3 (X3_put 3 (fun _ => 0) 0 2) 1 0)))]) [0, 1, 2, 3, 4, 5, 6, 7, 8, 9, 10, 11, 12, 13, 14, 15, 16, 17, 18] (by decide) rfl
  refine lv_iinc (v := 2) (lv' := [(1, .int 2), (0, .ref h0)]) hx hb dX6_init_64 hl (k := 0) rfl (by decide) (by decide) rfl (fun ls hl => ?_)
  refine lv_goto (tgt := 43) hx hb dX6_init_67 (by decide) ?_
  refine lv_iload_n hx hb dX6_init_43 rfl (lv_at hl 0 rfl) ?_
  refine va_getsN hx hb hZ hS hown (va_Nw.use rfl (hN _ lt_nw17)) (fun _ h => h) dX6_init_44 ?_
  refine va_tlen hx hb hTm hS (v := 3) rfl dX6_init_47 ?_
  refine lv_icmp_ge (tgt := 70) hx hb dX6_init_48 (by decide) (fun c => absurd c (by decide)) (fun _ => ?_)
  refine lv_aload_n hx hb dX6_init_51 rfl (lv_at hl 1 rfl) ?_
  refine va_get (D := D) (ci := 6) (v := .ref q27) (C := RX6) (T := TX6) (N := 10) hx hb hts iw_X6_init_6 hown hK hP 0 rfl rfl 2 (by decide) (hts (.fieldLink RX6 34 "LeafTurner$State" "settings" "LLeafTurner$Numbers;") (by decide +kernel)) (fun _ h9 => h9) rfl dX6_init_52 ?_
  refine lv_iload_n hx hb dX6_init_55 rfl (lv_at hl 0 rfl) ?_
  refine va_getsN hx hb hZ hS hown (va_Nw.use rfl (hN _ lt_nw17)) (fun _ h => h) dX6_init_56 ?_
  refine lv_iload_n hx hb dX6_init_59 rfl (lv_at hl 0 rfl) ?_
  refine va_ti hx hb hTm hS (i := 2) (vp_in_iff.mpr (by decide)) rfl dX6_init_60 ?_
  refine lt_top (y := 1) rfl ?_
  have hPc := hP.sub (ws' := lt_N2 yI q27 x_35 3 (X3_put 3 (X3_put 3 (fun _ => 0) 0 2) 1 0)) [17, 18] rfl
  have hDc := hD.sub (ws' := lt_N2 yI q27 x_35 3 (X3_put 3 (X3_put 3 (fun _ => 0) 0 2) 1 0)) [17, 18] (by decide) rfl
  refine lt_cWv0 (wc := lt_N2 yI q27 x_35 3 (X3_put 3 (X3_put 3 (fun _ => 0) 0 2) 1 0)) (wr := [(h0, .inr (6, [.ref q5, .ref q16, .ref q27, .int 0, .int 0, .int 0, .int 0, .int 0, .int 0, .int 0])), (q5, .inr (0, [.ref (x_9 2), .ref (x_9 4), .ref (x_9 6), .int 0])), (x_9 2, .inr (3, [.ref (x_9 3)])), (x_9 3, .inl (yI, 30, .inl (fun _ => 0))), (x_9 4, .inr (3, [.ref (x_9 5)])), (x_9 5, .inl (yI, 30, .inl (fun _ => 0))), (x_9 6, .inr (3, [.ref (x_9 7)])), (x_9 7, .inl (yI, 60, .inl (fun _ => 0))), (q16, .inr (5, [.ref (x_20 9), .ref (x_20 11), .ref (x_20 13), .ref (x_20 15), .int 0])), (x_20 9, .inr (3, [.ref (x_20 10)])), (x_20 10, .inl (yI, 80, .inl (fun _ => 0))), (x_20 11, .inr (3, [.ref (x_20 12)])), (x_20 12, .inl (yI, 80, .inl (fun _ => 0))), (x_20 13, .inr (3, [.ref (x_20 14)])), (x_20 14, .inl (yI, 80, .inl (fun _ => 0))), (x_20 15, .inr (3, [.ref (x_20 16)])), (x_20 16, .inl (yI, 80, .inl (fun _ => 0)))]) (va_runV (As := [.int 2, .int 1]) (rest := []) ⟨hx, hb, hml, hown, hts⟩ (c_X3_put l D yI yC yO q27 x_35 3 (X3_put 3 (X3_put 3 (fun _ => 0) 0 2) 1 0) 2 1 _ (by decide)) (cwV 2 hts gX6_init_X3_put rfl rfl rfl (by decide +kernel) ⟨Nat.le_of_ble_eq_true rfl, Nat.le_of_ble_eq_true rfl⟩) (lt_qV hK0 hPc hDc (va_recv hK hPc (ci := 3) (q0 := 0) rfl rfl)) rfl rfl hl.1 rfl (lv_room (Nat.le_of_ble_eq_true rfl)) dX6_init_61 ⟨Nat.le_of_ble_eq_true rfl, Nat.le_of_ble_eq_true rfl⟩) hP hD hS hA [17, 18] [0, 1, 2, 3, 4, 5, 6, 7, 8, 9, 10, 11, 12, 13, 14, 15, 16] rfl rfl (by decide) (by decide) (fun H locs hP hD hS => ?_)
  have hP := hP.sub (ws' := [(h0, .inr (6, [.ref q5, .ref q16, .ref q27, .int 0, .int 0, .int 0, .int 0, .int 0, .int 0, .int 0])), (q5, .inr (0, [.ref (x_9 2), .ref (x_9 4), .ref (x_9 6), .int 0])), (x_9 2, .inr (3, [.ref (x_9 3)])), (x_9 3, .inl (yI, 30, .inl (fun _ => 0))), (x_9 4, .inr (3, [.ref (x_9 5)])), (x_9 5, .inl (yI, 30, .inl (fun _ => 0))), (x_9 6, .inr (3, [.ref (x_9 7)])), (x_9 7, .inl (yI, 60, .inl (fun _ => 0))), (q16, .inr (5, [.ref (x_20 9), .ref (x_20 11), .ref (x_20 13), .ref (x_20 15), .int 0])), (x_20 9, .inr (3, [.ref (x_20 10)])), (x_20 10, .inl (yI, 80, .inl (fun _ => 0))), (x_20 11, .inr (3, [.ref (x_20 12)])), (x_20 12, .inl (yI, 80, .inl (fun _ => 0))), (x_20 13, .inr (3, [.ref (x_20 14)])), (x_20 14, .inl (yI, 80, .inl (fun _ => 0))), (x_20 15, .inr (3, [.ref (x_20 16)])), (x_20 16, .inl (yI, 80, .inl (fun _ => 0))), (q27, .inr (3, [.ref x_35])), (x_35, .inl (yI, 3, .inl (X3_put 3 (X3_put 3 (X3_put 3 (fun _ => 0) 0 2) 1 0) 2 1)))]) [0, 1, 2, 3, 4, 5, 6, 7, 8, 9, 10, 11, 12, 13, 14, 15, 16, 17, 18] rfl
  have hD := hD.sub (ws' := [(h0, .inr (6, [.ref q5, .ref q16, .ref q27, .int 0, .int 0, .int 0, .int 0, .int 0, .int 0, .int 0])), (q5, .inr (0, [.ref (x_9 2), .ref (x_9 4), .ref (x_9 6), .int 0])), (x_9 2, .inr (3, [.ref (x_9 3)])), (x_9 3, .inl (yI, 30, .inl (fun _ => 0))), (x_9 4, .inr (3, [.ref (x_9 5)])), (x_9 5, .inl (yI, 30, .inl (fun _ => 0))), (x_9 6, .inr (3, [.ref (x_9 7)])), (x_9 7, .inl (yI, 60, .inl (fun _ => 0))), (q16, .inr (5, [.ref (x_20 9), .ref (x_20 11), .ref (x_20 13), .ref (x_20 15), .int 0])), (x_20 9, .inr (3, [.ref (x_20 10)])), (x_20 10, .inl (yI, 80, .inl (fun _ => 0))), (x_20 11, .inr (3, [.ref (x_20 12)])), (x_20 12, .inl (yI, 80, .inl (fun _ => 0))), (x_20 13, .inr (3, [.ref (x_20 14)])), (x_20 14, .inl (yI, 80, .inl (fun _ => 0))), (x_20 15, .inr (3, [.ref (x_20 16)])), (x_20 16, .inl (yI, 80, .inl (fun _ => 0))), (q27, .inr (3, [.ref x_35])), (x_35, .inl (yI, 3, .inl (X3_put 3 (X3_put 3 (X3_put 3 (fun _ => 0) 0 2) 1 0) 2 1)))]) [0, 1, 2, 3, 4, 5, 6, 7, 8, 9, 10, 11, 12, 13, 14, 15, 16, 17, 18] (by decide) rfl
  refine lv_iinc (v := 3) (lv' := [(1, .int 3), (0, .ref h0)]) hx hb dX6_init_64 hl (k := 0) rfl (by decide) (by decide) rfl (fun ls hl => ?_)
  refine lv_goto (tgt := 43) hx hb dX6_init_67 (by decide) ?_
  refine lv_iload_n hx hb dX6_init_43 rfl (lv_at hl 0 rfl) ?_
  refine va_getsN hx hb hZ hS hown (va_Nw.use rfl (hN _ lt_nw17)) (fun _ h => h) dX6_init_44 ?_
  refine va_tlen hx hb hTm hS (v := 3) rfl dX6_init_47 ?_
  refine lv_icmp_ge (tgt := 70) hx hb dX6_init_48 (by decide) (fun _ => ?_) (fun c => absurd c (by decide))
  refine lv_aload_n hx hb dX6_init_70 rfl (lv_at hl 1 rfl) ?_
  refine lv_bipush (v := 6) hx hb dX6_init_71 (by decide) ?_
  refine va_put (D := D) (ci := 6) (v := .int 6) (ty := .int) (C := RX6) (T := TX6) (N := 10) hx hb hts iw_X6_init_6 tyX6 tyX6_ok nmX6 hown hK hP hD hS 0 rfl rfl 4 (by decide) (hts (.fieldLink RX6 42 "LeafTurner$State" "suction" "I") (by decide +kernel)) (fun _ h9 => h9) rfl (by decide +kernel) rfl rfl (Nat.le_of_ble_eq_true rfl) dX6_init_73 (fun H locs hP hD hS => ?_)
  have hP : va_P D vwCl ([(h0, .inr (6, [.ref q5, .ref q16, .ref q27, .int 0, .int 6, .int 0, .int 0, .int 0, .int 0, .int 0])), (q5, .inr (0, [.ref (x_9 2), .ref (x_9 4), .ref (x_9 6), .int 0])), (x_9 2, .inr (3, [.ref (x_9 3)])), (x_9 3, .inl (yI, 30, .inl (fun _ => 0))), (x_9 4, .inr (3, [.ref (x_9 5)])), (x_9 5, .inl (yI, 30, .inl (fun _ => 0))), (x_9 6, .inr (3, [.ref (x_9 7)])), (x_9 7, .inl (yI, 60, .inl (fun _ => 0))), (q16, .inr (5, [.ref (x_20 9), .ref (x_20 11), .ref (x_20 13), .ref (x_20 15), .int 0])), (x_20 9, .inr (3, [.ref (x_20 10)])), (x_20 10, .inl (yI, 80, .inl (fun _ => 0))), (x_20 11, .inr (3, [.ref (x_20 12)])), (x_20 12, .inl (yI, 80, .inl (fun _ => 0))), (x_20 13, .inr (3, [.ref (x_20 14)])), (x_20 14, .inl (yI, 80, .inl (fun _ => 0))), (x_20 15, .inr (3, [.ref (x_20 16)])), (x_20 16, .inl (yI, 80, .inl (fun _ => 0))), (q27, .inr (3, [.ref x_35])), (x_35, .inl (yI, 3, .inl (X3_put 3 (X3_put 3 (X3_put 3 (fun _ => 0) 0 2) 1 0) 2 1)))]) H := hP
  have hD : va_D A ([(h0, .inr (6, [.ref q5, .ref q16, .ref q27, .int 0, .int 6, .int 0, .int 0, .int 0, .int 0, .int 0])), (q5, .inr (0, [.ref (x_9 2), .ref (x_9 4), .ref (x_9 6), .int 0])), (x_9 2, .inr (3, [.ref (x_9 3)])), (x_9 3, .inl (yI, 30, .inl (fun _ => 0))), (x_9 4, .inr (3, [.ref (x_9 5)])), (x_9 5, .inl (yI, 30, .inl (fun _ => 0))), (x_9 6, .inr (3, [.ref (x_9 7)])), (x_9 7, .inl (yI, 60, .inl (fun _ => 0))), (q16, .inr (5, [.ref (x_20 9), .ref (x_20 11), .ref (x_20 13), .ref (x_20 15), .int 0])), (x_20 9, .inr (3, [.ref (x_20 10)])), (x_20 10, .inl (yI, 80, .inl (fun _ => 0))), (x_20 11, .inr (3, [.ref (x_20 12)])), (x_20 12, .inl (yI, 80, .inl (fun _ => 0))), (x_20 13, .inr (3, [.ref (x_20 14)])), (x_20 14, .inl (yI, 80, .inl (fun _ => 0))), (x_20 15, .inr (3, [.ref (x_20 16)])), (x_20 16, .inl (yI, 80, .inl (fun _ => 0))), (q27, .inr (3, [.ref x_35])), (x_35, .inl (yI, 3, .inl (X3_put 3 (X3_put 3 (X3_put 3 (fun _ => 0) 0 2) 1 0) 2 1)))]) := hD
  have hP := hP.sub (ws' := lt_St yI (lt_b0 h0 (fun k => ([h0, q5, x_9 2, x_9 3, x_9 4, x_9 5, x_9 6, x_9 7, q16, x_20 9, x_20 10, x_20 11, x_20 12, x_20 13, x_20 14, x_20 15, x_20 16, q27, x_35] : List Nat).getD k 0)) lt_si0 lt_sa0) [0, 1, 2, 3, 4, 5, 6, 7, 8, 9, 10, 11, 12, 13, 14, 15, 16, 17, 18] rfl
  have hD := hD.sub (ws' := lt_St yI (lt_b0 h0 (fun k => ([h0, q5, x_9 2, x_9 3, x_9 4, x_9 5, x_9 6, x_9 7, q16, x_20 9, x_20 10, x_20 11, x_20 12, x_20 13, x_20 14, x_20 15, x_20 16, q27, x_35] : List Nat).getD k 0)) lt_si0 lt_sa0) [0, 1, 2, 3, 4, 5, 6, 7, 8, 9, 10, 11, 12, 13, 14, 15, 16, 17, 18] (by decide) rfl
  refine W.widen (k := 18) (n := 460) (Nat.le_of_ble_eq_true rfl) (Nat.le_of_ble_eq_true rfl) ?_
  exact W.vret hx hb hret (fun t ht hW => ⟨⟨(fun k => ([h0, q5, x_9 2, x_9 3, x_9 4, x_9 5, x_9 6, x_9 7, q16, x_20 9, x_20 10, x_20 11, x_20 12, x_20 13, x_20 14, x_20 15, x_20 16, q27, x_35] : List Nat).getD k 0 : Nat → Nat), rfl, trivial, by rw [ht]; exact hP, hD⟩, hS.F ht⟩) hS.2.2 dX6_init_76
