/-! ===== what the law's methods know of the start; a contract within a larger world ===== -/
def lo_M (D : va_G) (yI yC yO : ClassId) (ws : va_W) (sz : Nat) (U : State) : Prop := lt_M D yI yC yO ws sz U ∧ va_AO "LeafTurner$State" U ∧ lt_Zx "SETTING_AT_FIRST" lt_first (va_A ws sz) U U.heap ∧ lt_Zx "SETTING_AT_MOST" lt_most (va_A ws sz) U U.heap
def lo_Q (D : va_G) (r : Int32) {V : Type} (Wo : V → va_W) (A : Nat → Prop) : Array Value → State → Outcome → State → Prop := va_Qi (fun x (_ : V) => x = r) (fun (v : V) (t : State) => va_P D vwCl (Wo v) t.heap ∧ va_D A (Wo v)) A
def lo_Ql (D : va_G) (r : Int64) {V : Type} (Wo : V → va_W) (A : Nat → Prop) : Array Value → State → Outcome → State → Prop := va_Ql (fun x (_ : V) => x = r) (fun (v : V) (t : State) => va_P D vwCl (Wo v) t.heap ∧ va_D A (Wo v)) A
theorem lo_fm {is : List Nat} {ws ws' : va_W} (h : is.map (fun i => ws[i]?) = ws'.map some) : is.filterMap (fun i => ws[i]?) = ws' := by
  have h1 : (is.map (fun i => ws[i]?)).filterMap id = (ws'.map some).filterMap id := by rw [h]
  rw [List.filterMap_map, List.filterMap_map] at h1
  have h2 : (id ∘ fun i : Nat => ws[i]?) = (fun i : Nat => ws[i]?) := rfl
  have h3 : (id ∘ (some : Nat × va_E → Option (Nat × va_E))) = some := rfl
  rw [h2, h3, List.filterMap_some] at h1
  exact h1
theorem lo_nar {nm : String} {tab : Nat → Int32} {A B : Nat → Prop} {U : State} {H : Heap} (h : lt_Zx nm tab A U H) (hAB : ∀ q, B q → A q) : lt_Zx nm tab B U H := by
  obtain ⟨tm, h1, h2⟩ := h
  exact ⟨tm, va_Z.narrow h1 hAB, va_T.narrow h2 hAB⟩
/-! ===== calls out of the law: the called object stands behind the rest ===== -/
theorem lo_qV {D : va_G} {yI yC yO : ClassId} {s : State} {H : Heap} {C : String} {b : Nat} {As : List Value} {ws : va_W} {A : Nat → Prop} {locs : List Loc} (hK : lt_K D yI yC yO s) (hAO : va_AO "LeafTurner$State" s) (hZf : lt_Zx "SETTING_AT_FIRST" lt_first A s s.heap) (hZm : lt_Zx "SETTING_AT_MOST" lt_most A s s.heap) (hP : va_P D vwCl ws H) (hD : va_D A ws) (hS : va_S A s.heap H locs) (hF : ∀ q, va_A ws H.size q → A q)
    (rec : ∃ cellB : Cell, H[b]? = some cellB ∧ cellB.vm.isStatics = false ∧ s.vm.findClass C = some cellB.cls) : PreV s H C b (va_Pc (.ref b :: As) (lo_M D yI yC yO ws H.size)) As :=
  ⟨fun _ U g mk q => ⟨q.1, ⟨q.2.1.1, q.2.1.2.1, q.2.1.2.2.1.call, q.2.1.2.2.2⟩, q.2.2.1.moved (u := U) (U := U.calling g mk _) (Vm.Alike.refl U.vm), q.2.2.2.1.call, q.2.2.2.2.call⟩, rec, fun U hU hW => ⟨rfl, ⟨by rw [hU], by rw [hU]; exact hP, hK.warm hW, hD.weaken (fun _ _ _ _ => trivial)⟩, hAO.moved hW.alike, hZf.to hS hF hW hU, hZm.to hS hF hW hU⟩⟩
theorem lo_qS {D : va_G} {yI yC yO : ClassId} {s : State} {H : Heap} {As : List Value} {ws : va_W} {A : Nat → Prop} {locs : List Loc} (hK : lt_K D yI yC yO s) (hAO : va_AO "LeafTurner$State" s) (hZf : lt_Zx "SETTING_AT_FIRST" lt_first A s s.heap) (hZm : lt_Zx "SETTING_AT_MOST" lt_most A s s.heap) (hP : va_P D vwCl ws H) (hD : va_D A ws) (hS : va_S A s.heap H locs) (hF : ∀ q, va_A ws H.size q → A q) : PreS s H (va_Pc As (lo_M D yI yC yO ws H.size)) As :=
  ⟨fun _ U g mk q => ⟨q.1, ⟨q.2.1.1, q.2.1.2.1, q.2.1.2.2.1.call, q.2.1.2.2.2⟩, q.2.2.1.moved (u := U) (U := U.calling g mk _) (Vm.Alike.refl U.vm), q.2.2.2.1.call, q.2.2.2.2.call⟩, fun U hU hW => ⟨rfl, ⟨by rw [hU], by rw [hU]; exact hP, hK.warm hW, hD.weaken (fun _ _ _ _ => trivial)⟩, hAO.moved hW.alike, hZf.to hS hF hW hU, hZm.to hS hF hW hU⟩⟩
theorem lo_subA {wr wc : va_W} {sz : Nat} {A : Nat → Prop} (hD : va_D A (wr ++ wc)) (hA : ∀ q, sz ≤ q → A q) : ∀ q, va_A wc sz q → A q := by
  intro q h
  rcases h with ⟨k, e, h⟩ | h
  · refine hD.2 (wr.length + k) (q, e) ?_
    rw [List.getElem?_append_right (Nat.le_add_right _ _), Nat.add_sub_cancel_left]
    exact h
  · exact hA q h
theorem lo_Pl {D : va_G} {cl : List vw_C} {w1 w2 : va_W} {H : Heap} (h : va_P D cl (w1 ++ w2) H) : va_P D cl w1 H := fun k q hk => h k q (by rw [List.getElem?_append_left (List.getElem?_eq_some_iff.mp hk).1]; exact hk)
theorem lo_Pr {D : va_G} {cl : List vw_C} {w1 w2 : va_W} {H : Heap} (h : va_P D cl (w1 ++ w2) H) : va_P D cl w2 H := fun k q hk => h (w1.length + k) q (by rw [List.getElem?_append_right (Nat.le_add_right _ _), Nat.add_sub_cancel_left]; exact hk)
theorem lo_Dl {A : Nat → Prop} {w1 w2 : va_W} (h : va_D A (w1 ++ w2)) : va_D A w1 :=
  ⟨fun i j p q hi hj e => h.1 i j p q (by rw [List.getElem?_append_left (List.getElem?_eq_some_iff.mp hi).1]; exact hi) (by rw [List.getElem?_append_left (List.getElem?_eq_some_iff.mp hj).1]; exact hj) e, fun k q hk => h.2 k q (by rw [List.getElem?_append_left (List.getElem?_eq_some_iff.mp hk).1]; exact hk)⟩
theorem lo_Dr {A : Nat → Prop} {w1 w2 : va_W} (h : va_D A (w1 ++ w2)) : va_D A w2 :=
  ⟨fun i j p q hi hj e => Nat.add_left_cancel (h.1 (w1.length + i) (w1.length + j) p q (by rw [List.getElem?_append_right (Nat.le_add_right _ _), Nat.add_sub_cancel_left]; exact hi) (by rw [List.getElem?_append_right (Nat.le_add_right _ _), Nat.add_sub_cancel_left]; exact hj) e), fun k q hk => h.2 (w1.length + k) q (by rw [List.getElem?_append_right (Nat.le_add_right _ _), Nat.add_sub_cancel_left]; exact hk)⟩
/-- what a call leaves, beside the rest -/
theorem lo_join {A : Nat → Prop} {D : va_G} {cl : List vw_C} {wc wr w1 : va_W} {H H1 : Heap} (hP : va_P D cl (wr ++ wc) H) (hD : va_D A (wr ++ wc)) (hk : ∀ q : Nat, q < H.size → ¬ va_A wc H.size q → H1[q]? = H[q]?) (hF : ∀ q, va_A wc H.size q → A q) (hP1 : va_P D cl w1 H1) (hD1 : va_D (va_A wc H.size) w1) : va_P D cl (wr ++ w1) H1 ∧ va_D A (wr ++ w1) := by
  have hPl := lo_Pl hP
  have apart : ∀ (k : Nat) (q : Nat × va_E), wr[k]? = some q → q.1 < H.size ∧ ¬ va_A wc H.size q.1 := by
    intro k q hq
    have hl := (hPl k q hq).lt
    refine ⟨hl, fun h => ?_⟩
    rcases h with ⟨k2, e, h⟩ | h
    · have hkl := (List.getElem?_eq_some_iff.mp hq).1
      have hij := hD.1 k (wr.length + k2) q (q.1, e) (by rw [List.getElem?_append_left hkl]; exact hq) (by rw [List.getElem?_append_right (Nat.le_add_right _ _), Nat.add_sub_cancel_left]; exact h) rfl
      omega
    · omega
  refine ⟨va_P.app (fun k q hq => (hPl k q hq).kept (hk q.1 (apart k q hq).1 (apart k q hq).2)) hP1, va_D.app (lo_Dl hD) (hD1.weaken (fun k q _ h => hF q.1 h)) (fun i j x y hx hy hxy => ?_)⟩
  exact (apart i x hx).2 (by rw [hxy]; exact hD1.2 j y hy)
/-! ===== a world in another order ===== -/
theorem lo_nd {ws : va_W} : (∀ (i j : Nat) (p q : Nat × va_E), ws[i]? = some p → ws[j]? = some q → p.1 = q.1 → i = j) ↔ (ws.map Prod.fst).Nodup := by
  constructor
  · intro h
    refine List.pairwise_iff_getElem.mpr (fun i j hi hj hij e => ?_)
    rw [List.length_map] at hi hj
    rw [List.getElem_map, List.getElem_map] at e
    have h1 := h i j ws[i] ws[j] (List.getElem?_eq_getElem hi) (List.getElem?_eq_getElem hj) e
    omega
  · intro h i j p q hp hq e
    obtain ⟨hi, ei⟩ := List.getElem?_eq_some_iff.mp hp
    obtain ⟨hj, ej⟩ := List.getElem?_eq_some_iff.mp hq
    have h1 := List.pairwise_iff_getElem.mp h
    rcases Nat.lt_trichotomy i j with c | c | c
    · exact absurd (by rw [List.getElem_map, List.getElem_map, ei, ej]; exact e) (h1 i j (by rw [List.length_map]; exact hi) (by rw [List.length_map]; exact hj) c)
    · exact c
    · exact absurd (by rw [List.getElem_map, List.getElem_map, ei, ej]; exact e.symm) (h1 j i (by rw [List.length_map]; exact hj) (by rw [List.length_map]; exact hi) c)
theorem lo_Pp {D : va_G} {cl : List vw_C} {ws ws' : va_W} {H : Heap} (h : va_P D cl ws H) (hp : ws.Perm ws') : va_P D cl ws' H := by
  intro k q hk
  obtain ⟨i, hi⟩ := List.getElem?_of_mem (hp.mem_iff.mpr (List.mem_of_getElem? hk))
  exact h i q hi
theorem lo_Dp {A : Nat → Prop} {ws ws' : va_W} (h : va_D A ws) (hp : ws.Perm ws') : va_D A ws' := by
  refine ⟨lo_nd.mpr ((hp.map Prod.fst).nodup_iff.mp (lo_nd.mp h.1)), fun k q hk => ?_⟩
  obtain ⟨i, hi⟩ := List.getElem?_of_mem (hp.mem_iff.mpr (List.mem_of_getElem? hk))
  exact h.2 i q hi
theorem lo_Ap {ws wr wc : va_W} {sz : Nat} (hp : ws.Perm (wr ++ wc)) : ∀ q, va_A wc sz q → va_A ws sz q := by
  intro q h
  rcases h with ⟨k, e, h⟩ | h
  · obtain ⟨i, hi⟩ := List.getElem?_of_mem (hp.mem_iff.mpr (List.mem_append_right wr (List.mem_of_getElem? h)))
    exact Or.inl ⟨i, e, hi⟩
  · exact Or.inr h
theorem lo_M.cut {D : va_G} {yI yC yO : ClassId} {ws wr wc : va_W} {sz : Nat} {U : State} (h : lo_M D yI yC yO ws sz U) (hp : ws.Perm (wr ++ wc)) : lo_M D yI yC yO wc sz U :=
  ⟨⟨h.1.1, lo_Pr (lo_Pp h.1.2.1 hp), h.1.2.2.1, lo_Dr (lo_Dp h.1.2.2.2 hp)⟩, h.2.1, lo_nar h.2.2.1 (lo_Ap hp), lo_nar h.2.2.2 (lo_Ap hp)⟩
theorem lo_frI {l : Launch} {y : MethodName} {wsn : List Cond} {rm : Room} {mc ms : Nat} {D : va_G} {yI yC yO : ClassId} {S V : Type} {X : Int32 × S} {Wf : S → va_W} {B0 : State → Prop} {av : List Value} {ws wc wr : va_W} {sz : Nat} {Wo : V → va_W} {r : Int32}
    (hM : Met l y wsn rm (va_Pc av B0) (lt_Qi D X Wf (va_A wc sz)) mc ms (va_A wc sz)) (hC : ws.Perm (wr ++ wc)) (hB : ∀ U : State, lo_M D yI yC yO wc sz U → B0 U) (v : V) (hr : X.1 = r) (hO : (wr ++ Wf X.2).Perm (Wo v)) :
    Met l y wsn rm (va_Pc av (lo_M D yI yC yO ws sz)) (lo_Q D r Wo (va_A ws sz)) mc ms (va_A ws sz) := by
  have hsub := lo_Ap (sz := sz) hC
  refine MetFree.mono hM (fun a s q => ⟨q.1, hB s (q.2.cut hC)⟩) (fun _ _ _ _ _ h => h) ?_
  intro a s o t hq h
  obtain ⟨⟨⟨x, u, ho, hx, hP1, hD1⟩, hF⟩, L, hL, hfree⟩ := h
  obtain ⟨hsz, hP, hK, hD⟩ := hq.2.1
  subst hsz
  subst hx
  obtain ⟨j1, j2⟩ := lo_join (A := va_A ws s.heap.size) (lo_Pp hP hC) (lo_Dp hD.self hC) hF.2 hsub hP1 hD1
  exact ⟨⟨⟨x, v, ho, hr, lo_Pp j1 hO, lo_Dp j2 hO⟩, ⟨hF.1, fun q h1 h2 => hF.2 q h1 (fun z => h2 (hsub q z))⟩⟩, L, hL, fun q hq => hsub _ (hfree q hq)⟩
theorem lo_frR {l : Launch} {y : MethodName} {wsn : List Cond} {rm : Room} {D : va_G} {yI yC yO : ClassId} {V : Type} {av : List Value} {ws wr wc : va_W} {sz : Nat} {Wo : V → va_W} {r : Int32}
    (hM : Met l y wsn rm (va_Pc av (lt_R D yI yC yO wc)) (lt_Si r) 0 0 (fun _ => False)) (hC : ws.Perm (wr ++ wc)) (v : V) (hO : Wo v = ws) :
    Met l y wsn rm (va_Pc av (lo_M D yI yC yO ws sz)) (lo_Q D r Wo (va_A ws sz)) 0 0 (va_A ws sz) := by
  refine MetFree.mono hM (fun a s q => ⟨q.1, lo_Pr (lo_Pp q.2.1.2.1 hC), q.2.1.2.2.1⟩) (fun _ _ _ _ _ h => h) ?_
  intro a s o t hq h
  obtain ⟨⟨x, ho, hx, ht⟩, L, hL, hfree⟩ := h
  obtain ⟨hsz, hP, hK, hD⟩ := hq.2.1
  refine ⟨⟨⟨x, v, ho, hx, by rw [hO, ht]; exact hP, by rw [hO]; exact hD.self⟩, ⟨by rw [ht]; exact Nat.le_refl _, fun q _ _ => by rw [ht]⟩⟩, L, hL, fun q hq => (hfree q hq).elim⟩
/-- the ground on which a method of the law stands -/
def lo_B (p : Program) (s : State) (m : MethodId) (args : Array Value) (c : Code) (cc : ByteArray) (nL : Nat) (Ts : List Cond) (D : va_G) (yI yC yO : ClassId) (A : Nat → Prop) : Prop :=
  CallFix p m c cc nL s args Ts RL ∧ lt_K D yI yC yO s ∧ va_AO "LeafTurner$State" s ∧ lt_Zx "SETTING_AT_FIRST" lt_first A s s.heap ∧ lt_Zx "SETTING_AT_MOST" lt_most A s s.heap ∧ ∀ q, s.heap.size ≤ q → A q
section LOC
variable {p : Program} {l : Launch} {e : Env} {R : Room} {s : State} {m : MethodId} {args : Array Value} {below : List Frame} {meth : Method} {c : Code} {H : Heap} {locs : List Loc} {cells slots : Nat} {Q : State → Prop}
variable {pc : Nat} {ls : Array Slot} {rest st0 : List Value} {a : Array Value} {A : Nat → Prop} {mc ms : Nat} {D : va_G} {yI yC yO : ClassId} {cc : ByteArray} {nL : Nat} {Ts : List Cond}
theorem lo_cI {V : Type} {Wo : V → va_W} {r : Int32} {wc wr : va_W} (hA : ∀ q, s.heap.size ≤ q → A q) (hr : va_Run p l e R s m args below meth c H locs cells slots mc ms (F0 m pc ls st0) rest (lo_Q D r Wo (va_A wc H.size) a) (va_A wc H.size))
    (hP : va_P D vwCl (wr ++ wc) H) (hD : va_D A (wr ++ wc)) (hS : va_S A s.heap H locs)
    (kk : ∀ (v : V) (H1 : Heap) (locs1 : List Loc), va_P D vwCl (wr ++ Wo v) H1 → va_D A (wr ++ Wo v) → va_S A s.heap H1 locs1 → W p l e R s m args below meth c H1 locs1 (cells + mc) (slots + ms) Q (F0 m (pc + 3) ls (.int r :: rest))) : W p l e R s m args below meth c H locs cells slots Q (F0 m pc ls st0) := by
  have hF := lo_subA hD (fun q h => hA q (Nat.le_trans hS.1 h))
  refine va_calli hr hS (fun q _ h => hF q h) hF (fun x v t H1 locs1 ht hvm hw hB hz1 hk1 hS1 => ?_)
  obtain ⟨hP1, hD1⟩ := hB
  rw [ht] at hP1
  obtain ⟨hP2, hD2⟩ := lo_join hP hD hk1 hF hP1 hD1
  subst hw
  exact kk v H1 locs1 hP2 hD2 hS1
theorem lo_cL {V : Type} {Wo : V → va_W} {r : Int64} {wc wr : va_W} (hA : ∀ q, s.heap.size ≤ q → A q) (hr : va_Run p l e R s m args below meth c H locs cells slots mc ms (F0 m pc ls st0) rest (lo_Ql D r Wo (va_A wc H.size) a) (va_A wc H.size))
    (hP : va_P D vwCl (wr ++ wc) H) (hD : va_D A (wr ++ wc)) (hS : va_S A s.heap H locs)
    (kk : ∀ (v : V) (H1 : Heap) (locs1 : List Loc), va_P D vwCl (wr ++ Wo v) H1 → va_D A (wr ++ Wo v) → va_S A s.heap H1 locs1 → W p l e R s m args below meth c H1 locs1 (cells + mc) (slots + ms) Q (F0 m (pc + 3) ls (.long r :: rest))) : W p l e R s m args below meth c H locs cells slots Q (F0 m pc ls st0) := by
  have hF := lo_subA hD (fun q h => hA q (Nat.le_trans hS.1 h))
  refine va_calll hr hS (fun q _ h => hF q h) hF (fun x v t H1 locs1 ht hvm hw hB hz1 hk1 hS1 => ?_)
  obtain ⟨hP1, hD1⟩ := hB
  rw [ht] at hP1
  obtain ⟨hP2, hD2⟩ := lo_join hP hD hk1 hF hP1 hD1
  subst hw
  exact kk v H1 locs1 hP2 hD2 hS1
/-- a call of one of the class's methods on an object that stands behind the rest -/
theorem lo_callV {V : Type} {Wo : V → va_W} {r : Int32} {wc wr : va_W} {y : MethodName} {bytes : ByteArray} {maxL index n : Nat} {wsn : List Cond} {rm : Room} {b : Nat} {As : List Value} {fs : List Value} (hB : lo_B p s m args c cc nL Ts D yI yC yO A)
    (hM : Met l y wsn rm (va_Pc (.ref b :: As) (lo_M D yI yC yO wc H.size)) (lo_Q D r Wo (va_A wc H.size)) 0 0 (va_A wc H.size)) (cw : CallW R s args RL RX7 index y bytes maxL (some .int) wsn rm 0 0 n) (hrec : wc[0]? = some (b, .inr (7, fs)))
    (hn : As.length = n) (hsize : ls.size = nL) (hst : st0 = As.reverse ++ .ref b :: rest) (hW : (rest.map fun v => v.category).sum ≤ 8) (hdg : decode cc pc = .ok (.invokevirtual index, 3)) (hc : cells ≤ R.cells) (hs : slots ≤ R.slots)
    (hP : va_P D vwCl (wr ++ wc) H) (hD : va_D A (wr ++ wc)) (hS : va_S A s.heap H locs)
    (kk : ∀ (v : V) (H1 : Heap) (locs1 : List Loc), va_P D vwCl (wr ++ Wo v) H1 → va_D A (wr ++ Wo v) → va_S A s.heap H1 locs1 → W p l e R s m args below meth c H1 locs1 cells slots Q (F0 m (pc + 3) ls (.int r :: rest))) : W p l e R s m args below meth c H locs cells slots Q (F0 m pc ls st0) := by
  subst hst
  obtain ⟨hfix, hK, hAO, hZf, hZm, hA⟩ := hB
  exact lo_cI (mc := 0) (ms := 0) hA (va_runV (As := As) (rest := rest) hfix hM cw (lo_qV hK hAO hZf hZm (lo_Pr hP) (lo_Dr hD) hS (lo_subA hD (fun q h => hA q (Nat.le_trans hS.1 h))) (va_recv hK.1 (lo_Pr hP) (ci := 7) (q0 := 0) rfl hrec)) rfl hn hsize rfl (lv_room hW) hdg ⟨hc, hs⟩) hP hD hS kk
/-- a call of one of the law's own methods -/
theorem lo_callS {V : Type} {Wo : V → va_W} {r : Int32} {wc wr : va_W} {y : MethodName} {bytes : ByteArray} {maxL index n : Nat} {ret : Option FieldType} {wsn : List Cond} {rm : Room} {As : List Value} (hB : lo_B p s m args c cc nL Ts D yI yC yO A)
    (hM : Met l y wsn rm (va_Pc As (lo_M D yI yC yO wc H.size)) (lo_Q D r Wo (va_A wc H.size)) mc ms (va_A wc H.size)) (cw : CallB R s args RL index y bytes maxL ret wsn rm mc ms n ∧ (Cond.static y).before args s = true)
    (hn : As.length = n) (hsize : ls.size = nL) (hst : st0 = As.reverse ++ rest) (hW : (rest.map fun v => v.category).sum ≤ 8) (hdg : decode cc pc = .ok (.invokestatic index, 3)) (hc : cells + mc ≤ R.cells) (hs : slots + ms ≤ R.slots)
    (hP : va_P D vwCl (wr ++ wc) H) (hD : va_D A (wr ++ wc)) (hS : va_S A s.heap H locs)
    (kk : ∀ (v : V) (H1 : Heap) (locs1 : List Loc), va_P D vwCl (wr ++ Wo v) H1 → va_D A (wr ++ Wo v) → va_S A s.heap H1 locs1 → W p l e R s m args below meth c H1 locs1 (cells + mc) (slots + ms) Q (F0 m (pc + 3) ls (.int r :: rest))) : W p l e R s m args below meth c H locs cells slots Q (F0 m pc ls st0) := by
  subst hst
  obtain ⟨hfix, hK, hAO, hZf, hZm, hA⟩ := hB
  exact lo_cI (mc := mc) (ms := ms) hA (va_runS (As := As) (rest := rest) hfix hM cw (lo_qS hK hAO hZf hZm (lo_Pr hP) (lo_Dr hD) hS (lo_subA hD (fun q h => hA q (Nat.le_trans hS.1 h)))) rfl hn hsize rfl (lv_room hW) hdg ⟨hc, hs⟩) hP hD hS kk
theorem lo_callSl {V : Type} {Wo : V → va_W} {r : Int64} {wc wr : va_W} {y : MethodName} {bytes : ByteArray} {maxL index n : Nat} {ret : Option FieldType} {wsn : List Cond} {rm : Room} {As : List Value} (hB : lo_B p s m args c cc nL Ts D yI yC yO A)
    (hM : Met l y wsn rm (va_Pc As (lo_M D yI yC yO wc H.size)) (lo_Ql D r Wo (va_A wc H.size)) mc ms (va_A wc H.size)) (cw : CallB R s args RL index y bytes maxL ret wsn rm mc ms n ∧ (Cond.static y).before args s = true)
    (hn : As.length = n) (hsize : ls.size = nL) (hst : st0 = As.reverse ++ rest) (hW : (rest.map fun v => v.category).sum ≤ 8) (hdg : decode cc pc = .ok (.invokestatic index, 3)) (hc : cells + mc ≤ R.cells) (hs : slots + ms ≤ R.slots)
    (hP : va_P D vwCl (wr ++ wc) H) (hD : va_D A (wr ++ wc)) (hS : va_S A s.heap H locs)
    (kk : ∀ (v : V) (H1 : Heap) (locs1 : List Loc), va_P D vwCl (wr ++ Wo v) H1 → va_D A (wr ++ Wo v) → va_S A s.heap H1 locs1 → W p l e R s m args below meth c H1 locs1 (cells + mc) (slots + ms) Q (F0 m (pc + 3) ls (.long r :: rest))) : W p l e R s m args below meth c H locs cells slots Q (F0 m pc ls st0) := by
  subst hst
  obtain ⟨hfix, hK, hAO, hZf, hZm, hA⟩ := hB
  exact lo_cL (mc := mc) (ms := ms) hA (va_runS (As := As) (rest := rest) hfix hM cw (lo_qS hK hAO hZf hZm (lo_Pr hP) (lo_Dr hD) hS (lo_subA hD (fun q h => hA q (Nat.le_trans hS.1 h)))) rfl hn hsize rfl (lv_room hW) hdg ⟨hc, hs⟩) hP hD hS kk
end LOC
