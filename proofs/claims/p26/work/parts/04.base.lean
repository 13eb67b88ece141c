/-! ===== the nest mates' links that the contracts carry ===== -/
def lt_nw : List Cond := [.fieldLinkNest "LeafTurner$State" 84 "LeafTurner$Book" "weights" "LLeafTurner$Numbers;" "LeafTurner", .fieldLinkNest "LeafTurner" 159 "LeafTurner$Book" "weights" "LLeafTurner$Numbers;" "LeafTurner", .fieldLinkNest "LeafTurner$State" 91 "LeafTurner$Book" "strengths" "LLeafTurner$Numbers;" "LeafTurner", .fieldLinkNest "LeafTurner" 162 "LeafTurner$Book" "strengths" "LLeafTurner$Numbers;" "LeafTurner", .fieldLinkNest "LeafTurner" 80 "LeafTurner$Book" "printed" "LLeafTurner$Numbers;" "LeafTurner", .fieldLinkNest "LeafTurner$State" 132 "LeafTurner$Book" "printed" "LLeafTurner$Numbers;" "LeafTurner", .fieldLinkNest "LeafTurner" 68 "LeafTurner$Book" "leaves" "I" "LeafTurner", .fieldLinkNest "LeafTurner$BookText" 19 "LeafTurner$Book" "leaves" "I" "LeafTurner", .fieldLinkNest "LeafTurner$State" 77 "LeafTurner$Book" "leaves" "I" "LeafTurner", .fieldLinkNest "LeafTurner$PageSet" 81 "LeafTurner$Pictures" "pages" "LLeafTurner$Numbers;" "LeafTurner", .fieldLinkNest "LeafTurner" 185 "LeafTurner$Pictures" "pages" "LLeafTurner$Numbers;" "LeafTurner", .fieldLinkNest "LeafTurner$PageSet" 64 "LeafTurner$Pictures" "numbers" "LLeafTurner$Numbers;" "LeafTurner", .fieldLinkNest "LeafTurner" 188 "LeafTurner$Pictures" "numbers" "LLeafTurner$Numbers;" "LeafTurner", .fieldLinkNest "LeafTurner" 203 "LeafTurner$Pictures" "pairs" "LLeafTurner$Numbers;" "LeafTurner", .fieldLinkNest "LeafTurner$PageSet" 29 "LeafTurner$Pictures" "size" "I" "LeafTurner", .fieldLinkNest "LeafTurner$State" 74 "LeafTurner$Pictures" "size" "I" "LeafTurner", .fieldLinkNest "LeafTurner" 132 "LeafTurner$Pictures" "size" "I" "LeafTurner", .fieldLinkNest "LeafTurner$State" 27 "LeafTurner" "SETTING_AT_FIRST" "[I" "LeafTurner", .fieldLinkNest "LeafTurner" 47 "LeafTurner$State" "book" "LLeafTurner$Book;" "LeafTurner", .fieldLinkNest "LeafTurner$PageSet" 37 "LeafTurner$State" "book" "LLeafTurner$Book;" "LeafTurner", .fieldLinkNest "LeafTurner$PageSet" 23 "LeafTurner$State" "pictures" "LLeafTurner$Pictures;" "LeafTurner", .fieldLinkNest "LeafTurner" 119 "LeafTurner$State" "pictures" "LLeafTurner$Pictures;" "LeafTurner", .fieldLinkNest "LeafTurner$PageSet" 75 "LeafTurner$State" "settings" "LLeafTurner$Numbers;" "LeafTurner", .fieldLinkNest "LeafTurner" 145 "LeafTurner$State" "settings" "LLeafTurner$Numbers;" "LeafTurner", .fieldLinkNest "LeafTurner" 101 "LeafTurner$State" "left" "I" "LeafTurner", .fieldLinkNest "LeafTurner" 138 "LeafTurner$State" "suction" "I" "LeafTurner", .fieldLinkNest "LeafTurner" 221 "LeafTurner$State" "turnings" "I" "LeafTurner", .fieldLinkNest "LeafTurner" 224 "LeafTurner$State" "turningsOfMore" "I" "LeafTurner", .fieldLinkNest "LeafTurner" 227 "LeafTurner$State" "turningsOfNone" "I" "LeafTurner", .fieldLinkNest "LeafTurner" 230 "LeafTurner$State" "pairs" "I" "LeafTurner", .fieldLinkNest "LeafTurner" 155 "LeafTurner$History" "size" "I" "LeafTurner", .fieldLinkNest "LeafTurner" 148 "LeafTurner$BookText" "length" "I" "LeafTurner", .fieldLinkNest "LeafTurner" 194 "LeafTurner$PageSet" "guesses" "LLeafTurner$Numbers;" "LeafTurner", .fieldLinkNest "LeafTurner" 172 "LeafTurner$PageSet" "chosen" "LLeafTurner$Numbers;" "LeafTurner", .methodLinkNest "LeafTurner$State" 116 ⟨"LeafTurner", "asNumber", "(Z)I"⟩ "LeafTurner", .methodLinkNest "LeafTurner$State" 109 ⟨"LeafTurner", "isRightPage", "(I)Z"⟩ "LeafTurner", .methodLinkNest "LeafTurner$Pictures" 41 ⟨"LeafTurner", "asNumber", "(Z)I"⟩ "LeafTurner"]
theorem lt_nw0 : (Cond.fieldLinkNest "LeafTurner$State" 84 "LeafTurner$Book" "weights" "LLeafTurner$Numbers;" "LeafTurner" : Cond) ∈ lt_nw := List.mem_of_getElem? (i := 0) rfl
theorem lt_nw1 : (Cond.fieldLinkNest "LeafTurner" 159 "LeafTurner$Book" "weights" "LLeafTurner$Numbers;" "LeafTurner" : Cond) ∈ lt_nw := List.mem_of_getElem? (i := 1) rfl
theorem lt_nw2 : (Cond.fieldLinkNest "LeafTurner$State" 91 "LeafTurner$Book" "strengths" "LLeafTurner$Numbers;" "LeafTurner" : Cond) ∈ lt_nw := List.mem_of_getElem? (i := 2) rfl
theorem lt_nw3 : (Cond.fieldLinkNest "LeafTurner" 162 "LeafTurner$Book" "strengths" "LLeafTurner$Numbers;" "LeafTurner" : Cond) ∈ lt_nw := List.mem_of_getElem? (i := 3) rfl
theorem lt_nw4 : (Cond.fieldLinkNest "LeafTurner" 80 "LeafTurner$Book" "printed" "LLeafTurner$Numbers;" "LeafTurner" : Cond) ∈ lt_nw := List.mem_of_getElem? (i := 4) rfl
theorem lt_nw5 : (Cond.fieldLinkNest "LeafTurner$State" 132 "LeafTurner$Book" "printed" "LLeafTurner$Numbers;" "LeafTurner" : Cond) ∈ lt_nw := List.mem_of_getElem? (i := 5) rfl
theorem lt_nw6 : (Cond.fieldLinkNest "LeafTurner" 68 "LeafTurner$Book" "leaves" "I" "LeafTurner" : Cond) ∈ lt_nw := List.mem_of_getElem? (i := 6) rfl
theorem lt_nw7 : (Cond.fieldLinkNest "LeafTurner$BookText" 19 "LeafTurner$Book" "leaves" "I" "LeafTurner" : Cond) ∈ lt_nw := List.mem_of_getElem? (i := 7) rfl
theorem lt_nw8 : (Cond.fieldLinkNest "LeafTurner$State" 77 "LeafTurner$Book" "leaves" "I" "LeafTurner" : Cond) ∈ lt_nw := List.mem_of_getElem? (i := 8) rfl
theorem lt_nw9 : (Cond.fieldLinkNest "LeafTurner$PageSet" 81 "LeafTurner$Pictures" "pages" "LLeafTurner$Numbers;" "LeafTurner" : Cond) ∈ lt_nw := List.mem_of_getElem? (i := 9) rfl
theorem lt_nw10 : (Cond.fieldLinkNest "LeafTurner" 185 "LeafTurner$Pictures" "pages" "LLeafTurner$Numbers;" "LeafTurner" : Cond) ∈ lt_nw := List.mem_of_getElem? (i := 10) rfl
theorem lt_nw11 : (Cond.fieldLinkNest "LeafTurner$PageSet" 64 "LeafTurner$Pictures" "numbers" "LLeafTurner$Numbers;" "LeafTurner" : Cond) ∈ lt_nw := List.mem_of_getElem? (i := 11) rfl
theorem lt_nw12 : (Cond.fieldLinkNest "LeafTurner" 188 "LeafTurner$Pictures" "numbers" "LLeafTurner$Numbers;" "LeafTurner" : Cond) ∈ lt_nw := List.mem_of_getElem? (i := 12) rfl
theorem lt_nw13 : (Cond.fieldLinkNest "LeafTurner" 203 "LeafTurner$Pictures" "pairs" "LLeafTurner$Numbers;" "LeafTurner" : Cond) ∈ lt_nw := List.mem_of_getElem? (i := 13) rfl
theorem lt_nw14 : (Cond.fieldLinkNest "LeafTurner$PageSet" 29 "LeafTurner$Pictures" "size" "I" "LeafTurner" : Cond) ∈ lt_nw := List.mem_of_getElem? (i := 14) rfl
theorem lt_nw15 : (Cond.fieldLinkNest "LeafTurner$State" 74 "LeafTurner$Pictures" "size" "I" "LeafTurner" : Cond) ∈ lt_nw := List.mem_of_getElem? (i := 15) rfl
theorem lt_nw16 : (Cond.fieldLinkNest "LeafTurner" 132 "LeafTurner$Pictures" "size" "I" "LeafTurner" : Cond) ∈ lt_nw := List.mem_of_getElem? (i := 16) rfl
theorem lt_nw17 : (Cond.fieldLinkNest "LeafTurner$State" 27 "LeafTurner" "SETTING_AT_FIRST" "[I" "LeafTurner" : Cond) ∈ lt_nw := List.mem_of_getElem? (i := 17) rfl
theorem lt_nw18 : (Cond.fieldLinkNest "LeafTurner" 47 "LeafTurner$State" "book" "LLeafTurner$Book;" "LeafTurner" : Cond) ∈ lt_nw := List.mem_of_getElem? (i := 18) rfl
theorem lt_nw19 : (Cond.fieldLinkNest "LeafTurner$PageSet" 37 "LeafTurner$State" "book" "LLeafTurner$Book;" "LeafTurner" : Cond) ∈ lt_nw := List.mem_of_getElem? (i := 19) rfl
theorem lt_nw20 : (Cond.fieldLinkNest "LeafTurner$PageSet" 23 "LeafTurner$State" "pictures" "LLeafTurner$Pictures;" "LeafTurner" : Cond) ∈ lt_nw := List.mem_of_getElem? (i := 20) rfl
theorem lt_nw21 : (Cond.fieldLinkNest "LeafTurner" 119 "LeafTurner$State" "pictures" "LLeafTurner$Pictures;" "LeafTurner" : Cond) ∈ lt_nw := List.mem_of_getElem? (i := 21) rfl
theorem lt_nw22 : (Cond.fieldLinkNest "LeafTurner$PageSet" 75 "LeafTurner$State" "settings" "LLeafTurner$Numbers;" "LeafTurner" : Cond) ∈ lt_nw := List.mem_of_getElem? (i := 22) rfl
theorem lt_nw23 : (Cond.fieldLinkNest "LeafTurner" 145 "LeafTurner$State" "settings" "LLeafTurner$Numbers;" "LeafTurner" : Cond) ∈ lt_nw := List.mem_of_getElem? (i := 23) rfl
theorem lt_nw24 : (Cond.fieldLinkNest "LeafTurner" 101 "LeafTurner$State" "left" "I" "LeafTurner" : Cond) ∈ lt_nw := List.mem_of_getElem? (i := 24) rfl
theorem lt_nw25 : (Cond.fieldLinkNest "LeafTurner" 138 "LeafTurner$State" "suction" "I" "LeafTurner" : Cond) ∈ lt_nw := List.mem_of_getElem? (i := 25) rfl
theorem lt_nw26 : (Cond.fieldLinkNest "LeafTurner" 221 "LeafTurner$State" "turnings" "I" "LeafTurner" : Cond) ∈ lt_nw := List.mem_of_getElem? (i := 26) rfl
theorem lt_nw27 : (Cond.fieldLinkNest "LeafTurner" 224 "LeafTurner$State" "turningsOfMore" "I" "LeafTurner" : Cond) ∈ lt_nw := List.mem_of_getElem? (i := 27) rfl
theorem lt_nw28 : (Cond.fieldLinkNest "LeafTurner" 227 "LeafTurner$State" "turningsOfNone" "I" "LeafTurner" : Cond) ∈ lt_nw := List.mem_of_getElem? (i := 28) rfl
theorem lt_nw29 : (Cond.fieldLinkNest "LeafTurner" 230 "LeafTurner$State" "pairs" "I" "LeafTurner" : Cond) ∈ lt_nw := List.mem_of_getElem? (i := 29) rfl
theorem lt_nw30 : (Cond.fieldLinkNest "LeafTurner" 155 "LeafTurner$History" "size" "I" "LeafTurner" : Cond) ∈ lt_nw := List.mem_of_getElem? (i := 30) rfl
theorem lt_nw31 : (Cond.fieldLinkNest "LeafTurner" 148 "LeafTurner$BookText" "length" "I" "LeafTurner" : Cond) ∈ lt_nw := List.mem_of_getElem? (i := 31) rfl
theorem lt_nw32 : (Cond.fieldLinkNest "LeafTurner" 194 "LeafTurner$PageSet" "guesses" "LLeafTurner$Numbers;" "LeafTurner" : Cond) ∈ lt_nw := List.mem_of_getElem? (i := 32) rfl
theorem lt_nw33 : (Cond.fieldLinkNest "LeafTurner" 172 "LeafTurner$PageSet" "chosen" "LLeafTurner$Numbers;" "LeafTurner" : Cond) ∈ lt_nw := List.mem_of_getElem? (i := 33) rfl
theorem lt_nw34 : (Cond.methodLinkNest "LeafTurner$State" 116 ⟨"LeafTurner", "asNumber", "(Z)I"⟩ "LeafTurner" : Cond) ∈ lt_nw := List.mem_of_getElem? (i := 34) rfl
theorem lt_nw35 : (Cond.methodLinkNest "LeafTurner$State" 109 ⟨"LeafTurner", "isRightPage", "(I)Z"⟩ "LeafTurner" : Cond) ∈ lt_nw := List.mem_of_getElem? (i := 35) rfl
theorem lt_nw36 : (Cond.methodLinkNest "LeafTurner$Pictures" 41 ⟨"LeafTurner", "asNumber", "(Z)I"⟩ "LeafTurner" : Cond) ∈ lt_nw := List.mem_of_getElem? (i := 36) rfl
def lt_isN : Cond → Bool
  | .fieldLinkNest _ _ _ _ _ _ => true
  | .methodLinkNest _ _ _ _ => true
  | _ => false
theorem lt_nw_isN : lt_nw.all lt_isN = true := by decide +kernel
def lt_N (U : State) : Prop := ∀ w ∈ lt_nw, va_Nw w U
theorem lt_N.same {u U : State} (h : u.vm = U.vm) (hN : lt_N u) : lt_N U := by
  intro w hw
  have h1 := List.all_eq_true.mp lt_nw_isN w hw
  have h2 := hN w hw
  cases w <;> first | (simp [lt_isN] at h1; done) | exact va_Nw.same rfl h h2
theorem lt_N.warm {s U : State} (h : s.WarmedH U.vm) (hN : lt_N s) : lt_N U := by
  intro w hw
  have h1 := List.all_eq_true.mp lt_nw_isN w hw
  have h2 := hN w hw
  cases w <;> first | (simp [lt_isN] at h1; done) | exact va_Nw.warmF h h2 | exact va_Nw.warmM h h2
/-! ===== what every contract knows of the tables ===== -/
abbrev lt_ty (yI yC yO : ClassId) : List (ClassId × FieldType) := [(yI, .int), (yC, .char), (yO, .object "LeafTurner$State")]
def lt_K (D : va_G) (yI yC yO : ClassId) (U : State) : Prop := va_K D vwCl (lt_ty yI yC yO) U ∧ lt_N U
theorem lt_K.call {D : va_G} {yI yC yO : ClassId} {U : State} {g : JFrame} {mk : MethodId} {a : Array Value} (h : lt_K D yI yC yO U) : lt_K D yI yC yO (U.calling g mk a) :=
  ⟨va_K.moved (u := U) (U := U.calling g mk a) (Vm.Alike.refl U.vm) h.1, h.2.same (u := U) (U := U.calling g mk a) rfl⟩
theorem lt_K.warm {D : va_G} {yI yC yO : ClassId} {s U : State} (h : lt_K D yI yC yO s) (hW : s.WarmedH U.vm) : lt_K D yI yC yO U := ⟨va_K.moved hW.alike h.1, h.2.warm hW⟩
/-! ===== premises and ends: reading, and writing ===== -/
def lt_R (D : va_G) (yI yC yO : ClassId) (ws : va_W) (U : State) : Prop := va_P D vwCl ws U.heap ∧ lt_K D yI yC yO U
def lt_M (D : va_G) (yI yC yO : ClassId) (ws : va_W) (sz : Nat) (U : State) : Prop := U.heap.size = sz ∧ va_P D vwCl ws U.heap ∧ lt_K D yI yC yO U ∧ va_D (fun _ => True) ws
def lt_Si (X : Int32) : Array Value → State → Outcome → State → Prop := vp_Si (fun r => r = X)
def lt_Qi {S : Type} (D : va_G) (X : Int32 × S) (Wf : S → va_W) (A : Nat → Prop) : Array Value → State → Outcome → State → Prop := va_Qi (fun (r : Int32) (u : S) => (r, u) = X) (fun (u : S) (t : State) => va_P D vwCl (Wf u) t.heap ∧ va_D A (Wf u)) A
def lt_Qv {S : Type} (D : va_G) (X : S) (Wf : S → va_W) (A : Nat → Prop) : Array Value → State → Outcome → State → Prop := va_Qv (fun (u : S) => u = X) (fun (u : S) (t : State) => va_P D vwCl (Wf u) t.heap ∧ va_D A (Wf u)) A
theorem lt_pV {D : va_G} {yI yC yO : ClassId} {s : State} {H : Heap} {C : String} {b : Nat} {As : List Value} {ws : va_W} (hK : lt_K D yI yC yO s) (hP : va_P D vwCl ws H) (rec : ∃ cellB : Cell, H[b]? = some cellB ∧ cellB.vm.isStatics = false ∧ s.vm.findClass C = some cellB.cls) : PreV s H C b (va_Pc (.ref b :: As) (lt_R D yI yC yO ws)) As :=
  ⟨fun _ _ _ _ q => ⟨q.1, q.2.1, q.2.2.call⟩, rec, fun U hU hW => ⟨rfl, by rw [hU]; exact hP, hK.warm hW⟩⟩
theorem lt_pS {D : va_G} {yI yC yO : ClassId} {s : State} {H : Heap} {As : List Value} {ws : va_W} (hK : lt_K D yI yC yO s) (hP : va_P D vwCl ws H) : PreS s H (va_Pc As (lt_R D yI yC yO ws)) As :=
  ⟨fun _ _ _ _ q => ⟨q.1, q.2.1, q.2.2.call⟩, fun U hU hW => ⟨rfl, by rw [hU]; exact hP, hK.warm hW⟩⟩
theorem lt_qV {D : va_G} {yI yC yO : ClassId} {s : State} {H : Heap} {C : String} {b : Nat} {As : List Value} {ws : va_W} {A : Nat → Prop} (hK : lt_K D yI yC yO s) (hP : va_P D vwCl ws H) (hD : va_D A ws) (rec : ∃ cellB : Cell, H[b]? = some cellB ∧ cellB.vm.isStatics = false ∧ s.vm.findClass C = some cellB.cls) : PreV s H C b (va_Pc (.ref b :: As) (lt_M D yI yC yO ws H.size)) As :=
  ⟨fun _ _ _ _ q => ⟨q.1, q.2.1, q.2.2.1, q.2.2.2.1.call, q.2.2.2.2⟩, rec, fun U hU hW => ⟨rfl, by rw [hU], by rw [hU]; exact hP, hK.warm hW, hD.weaken (fun _ _ _ _ => trivial)⟩⟩
theorem lt_qS {D : va_G} {yI yC yO : ClassId} {s : State} {H : Heap} {As : List Value} {ws : va_W} {A : Nat → Prop} (hK : lt_K D yI yC yO s) (hP : va_P D vwCl ws H) (hD : va_D A ws) : PreS s H (va_Pc As (lt_M D yI yC yO ws H.size)) As :=
  ⟨fun _ _ _ _ q => ⟨q.1, q.2.1, q.2.2.1, q.2.2.2.1.call, q.2.2.2.2⟩, fun U hU hW => ⟨rfl, by rw [hU], by rw [hU]; exact hP, hK.warm hW, hD.weaken (fun _ _ _ _ => trivial)⟩⟩
section LTC
variable {p : Program} {l : Launch} {e : Env} {R : Room} {s : State} {m : MethodId} {args : Array Value} {below : List Frame} {meth : Method} {c : Code} {H : Heap} {locs : List Loc} {cells slots : Nat} {Q : State → Prop}
variable {pc : Nat} {ls : Array Slot} {rest st0 : List Value} {a : Array Value} {A0 : Nat → Prop} {H0 : Heap} {mc ms : Nat} {D : va_G}
/-- a call that writes: its cells are cut out, what it leaves is put behind the rest -/
theorem lt_cWi {S : Type} {X : Int32 × S} {Wf : S → va_W} {ws wc wr : va_W} (hr : va_Run p l e R s m args below meth c H locs cells slots mc ms (F0 m pc ls st0) rest (lt_Qi D X Wf (va_A wc H.size) a) (va_A wc H.size))
    (hP : va_P D vwCl ws H) (hD : va_D A0 ws) (hS : va_S A0 H0 H locs) (hA : ∀ q, H0.size ≤ q → A0 q) (isC isR : List Nat) (hC : isC.map (fun i => ws[i]?) = wc.map some) (hR : isR.map (fun i => ws[i]?) = wr.map some) (hn : va_nd isR = true) (hdis : ∀ i ∈ isR, i ∉ isC)
    (kk : ∀ (x : Int32 × S), x = X → ∀ (H1 : Heap) (locs1 : List Loc), va_P D vwCl (wr ++ Wf x.2) H1 → va_D A0 (wr ++ Wf x.2) → va_S A0 H0 H1 locs1 → W p l e R s m args below meth c H1 locs1 (cells + mc) (slots + ms) Q (F0 m (pc + 3) ls (.int x.1 :: rest))) : W p l e R s m args below meth c H locs cells slots Q (F0 m pc ls st0) := by
  have hF := va_free (wc := wc) hD hS hA isC hC
  refine va_calli hr hS (fun q _ h => hF q h) hF (fun r u t H1 locs1 ht hvm hw hB hz1 hk1 hS1 => ?_)
  obtain ⟨hP1, hD1⟩ := hB
  rw [ht] at hP1
  obtain ⟨hP2, hD2⟩ := va_join (wr := wr) (w1 := Wf u) hP hD isC isR hC hR hn hdis hk1 hF hP1 hD1
  exact kk (r, u) hw H1 locs1 hP2 hD2 hS1
theorem lt_cWv {S : Type} {X : S} {Wf : S → va_W} {ws wc wr : va_W} (hr : va_Run p l e R s m args below meth c H locs cells slots mc ms (F0 m pc ls st0) rest (lt_Qv D X Wf (va_A wc H.size) a) (va_A wc H.size))
    (hP : va_P D vwCl ws H) (hD : va_D A0 ws) (hS : va_S A0 H0 H locs) (hA : ∀ q, H0.size ≤ q → A0 q) (isC isR : List Nat) (hC : isC.map (fun i => ws[i]?) = wc.map some) (hR : isR.map (fun i => ws[i]?) = wr.map some) (hn : va_nd isR = true) (hdis : ∀ i ∈ isR, i ∉ isC)
    (kk : ∀ (x : S), x = X → ∀ (H1 : Heap) (locs1 : List Loc), va_P D vwCl (wr ++ Wf x) H1 → va_D A0 (wr ++ Wf x) → va_S A0 H0 H1 locs1 → W p l e R s m args below meth c H1 locs1 (cells + mc) (slots + ms) Q (F0 m (pc + 3) ls rest)) : W p l e R s m args below meth c H locs cells slots Q (F0 m pc ls st0) := by
  have hF := va_free (wc := wc) hD hS hA isC hC
  refine va_callv hr hS (fun q _ h => hF q h) hF (fun u t H1 locs1 ht hvm hw hB hz1 hk1 hS1 => ?_)
  obtain ⟨hP1, hD1⟩ := hB
  rw [ht] at hP1
  obtain ⟨hP2, hD2⟩ := va_join (wr := wr) (w1 := Wf u) hP hD isC isR hC hR hn hdis hk1 hF hP1 hD1
  exact kk u hw H1 locs1 hP2 hD2 hS1
theorem lt_cWv0 {S : Type} {X : S} {Wf : S → va_W} {ws wc wr : va_W} (hr : va_Run p l e R s m args below meth c H locs cells slots mc ms (F0 m pc ls st0) rest (lt_Qv D X Wf (va_A wc H.size) a) (va_A wc H.size))
    (hP : va_P D vwCl ws H) (hD : va_D A0 ws) (hS : va_S A0 H0 H locs) (hA : ∀ q, H0.size ≤ q → A0 q) (isC isR : List Nat) (hC : isC.map (fun i => ws[i]?) = wc.map some) (hR : isR.map (fun i => ws[i]?) = wr.map some) (hn : va_nd isR = true) (hdis : ∀ i ∈ isR, i ∉ isC)
    (kk : ∀ (H1 : Heap) (locs1 : List Loc), va_P D vwCl (wr ++ Wf X) H1 → va_D A0 (wr ++ Wf X) → va_S A0 H0 H1 locs1 → W p l e R s m args below meth c H1 locs1 (cells + mc) (slots + ms) Q (F0 m (pc + 3) ls rest)) : W p l e R s m args below meth c H locs cells slots Q (F0 m pc ls st0) :=
  lt_cWv hr hP hD hS hA isC isR hC hR hn hdis (fun x hx => hx ▸ kk)
/-- a call that reads -/
theorem lt_cR {X : Int32} (hr : va_Run p l e R s m args below meth c H locs cells slots 0 0 (F0 m pc ls st0) rest (lt_Si X a) (fun _ => False))
    (kk : ∀ r : Int32, r = X → W p l e R s m args below meth c H locs cells slots Q (F0 m (pc + 3) ls (.int r :: rest))) : W p l e R s m args below meth c H locs cells slots Q (F0 m pc ls st0) := vp_callSi hr.run kk
/-- the number on the stack, said otherwise -/
theorem lt_top {x y : Int32} (h : x = y) (k : W p l e R s m args below meth c H locs cells slots Q (F0 m pc ls (.int y :: rest))) : W p l e R s m args below meth c H locs cells slots Q (F0 m pc ls (.int x :: rest)) := by subst h; exact k
/-- a loop, by its fuel -/
theorem lt_loop {σ : Type} (I : Nat → σ → Heap → List Loc → Array Slot → Prop) (h0 : ∀ (x : σ) (H : Heap) (locs : List Loc) (ls : Array Slot), ¬ I 0 x H locs ls)
    (hs : ∀ n : Nat, (∀ (x : σ) (H : Heap) (locs : List Loc) (ls : Array Slot), I n x H locs ls → W p l e R s m args below meth c H locs cells slots Q (F0 m pc ls [])) → ∀ (x : σ) (H : Heap) (locs : List Loc) (ls : Array Slot), I (n + 1) x H locs ls → W p l e R s m args below meth c H locs cells slots Q (F0 m pc ls [])) :
    ∀ (n : Nat) (x : σ) (H : Heap) (locs : List Loc) (ls : Array Slot), I n x H locs ls → W p l e R s m args below meth c H locs cells slots Q (F0 m pc ls []) := by
  intro n
  induction n with
  | zero => exact fun x H locs ls h => absurd h (h0 x H locs ls)
  | succ n ih => exact hs n ih
end LTC
theorem lt_zn {v : Int32} (h : v = 0 ∨ v = 1) : narrow .boolean (.int v) = .int v := by rcases h with h | h <;> subst h <;> rfl
theorem lt_z0 : narrow .boolean (.int 0) = .int 0 := rfl
theorem lt_z1 : narrow .boolean (.int 1) = .int 1 := rfl
/-! ===== fuel of a counting loop ===== -/
def lt_fu (n : Nat) (b i : Int32) : Prop := 0 < n ∧ b.toInt - i.toInt < (n : Int)
theorem lt_fu0 {b i : Int32} : ¬ lt_fu 0 b i := fun h => absurd h.1 (Nat.lt_irrefl 0)
theorem lt_fuI (b i : Int32) : lt_fu ((b.toInt - i.toInt).toNat + 1) b i := ⟨Nat.succ_pos _, by omega⟩
theorem lt_add1 {b i : Int32} (c : i < b) : (i + 1).toInt = i.toInt + 1 := by
  have h1 : i.toInt < b.toInt := Int32.lt_iff_toInt_lt.mp c
  have h2 : b.toInt < 2 ^ 31 := Int32.toInt_lt b
  have h3 : -2 ^ 31 ≤ i.toInt := Int32.le_toInt i
  rw [Int32.toInt_add]
  have h4 : (1 : Int32).toInt = 1 := by decide
  rw [h4]
  exact Int.bmod_eq_of_le (by omega) (by omega)
theorem lt_fuS {n : Nat} {b i : Int32} (h : lt_fu (n + 1) b i) (c : i < b) : lt_fu n b (i + 1) := by
  have h1 : i.toInt < b.toInt := Int32.lt_iff_toInt_lt.mp c
  have h2 := h.2
  have h3 := lt_add1 c
  unfold lt_fu
  rw [h3]
  omega
theorem lt_nle {a b : Int32} (h : ¬ a ≤ b) : b < a := Int32.not_le.mp h
theorem lt_nlt {a b : Int32} (h : ¬ a < b) : b ≤ a := Int32.not_lt.mp h
/-! ===== rows that agree within their length are the same cell ===== -/
theorem lt_arr {y : ClassId} {n : Nat} {f g : Nat → Value} (h : ∀ j, j < n → f j = g j) : arrV y n f = arrV y n g := by
  unfold arrV
  congr 1
  exact congrArg Array.ofFn (funext fun j => h j.1 j.2)
theorem lt_rowI {D : va_G} {cl : List vw_C} {q n : Nat} {y : ClassId} {f g : Nat → Int32} {H : Heap} (h : ∀ j, j < n → f j = g j) (hP : va_at D cl (q, .inl (y, n, .inl f)) H) : va_at D cl (q, .inl (y, n, .inl g)) H := by
  have h1 : H[q]? = some (vp_cell y (n, .inl f)) := hP
  show H[q]? = some (vp_cell y (n, .inl g))
  rw [h1, vp_cell_i, vp_cell_i, lt_arr (fun j hj => by rw [h j hj])]
theorem lt_rowQ {D : va_G} {cl : List vw_C} {q n : Nat} {y : ClassId} {f g : Nat → Option Nat} {H : Heap} (h : ∀ j, j < n → f j = g j) (hP : va_at D cl (q, .inl (y, n, .inr (.inr (.inr (.inr f))))) H) : va_at D cl (q, .inl (y, n, .inr (.inr (.inr (.inr g))))) H := by
  have h1 : H[q]? = some (vp_cell y (n, .inr (.inr (.inr (.inr f))))) := hP
  show H[q]? = some (vp_cell y (n, .inr (.inr (.inr (.inr g)))))
  rw [h1, vp_cell_q, vp_cell_q, lt_arr (fun j hj => by rw [h j hj])]
/-- one cell of a world, said otherwise -/
theorem lt_Pset {D : va_G} {cl : List vw_C} {ws : va_W} {H : Heap} (hP : va_P D cl ws H) (k : Nat) {q : Nat} {e e' : va_E} (hk : ws[k]? = some (q, e)) (h : va_at D cl (q, e) H → va_at D cl (q, e') H) : va_P D cl (ws.set k (q, e')) H := by
  intro j x hx
  by_cases hj : k = j
  · subst hj
    have hl : k < ws.length := (List.getElem?_eq_some_iff.mp hk).1
    rw [List.getElem?_set_self hl] at hx
    cases hx
    exact h (hP k _ hk)
  · rw [List.getElem?_set_ne hj] at hx
    exact hP j x hx
theorem lt_Dset {A : Nat → Prop} {ws : va_W} (hD : va_D A ws) (k : Nat) {q : Nat} {e e' : va_E} (hk : ws[k]? = some (q, e)) : va_D A (ws.set k (q, e')) := va_D.set hD hk
/-! ===== the worlds ===== -/
abbrev lt_N2 (yI : ClassId) (a b n : Nat) (f : Nat → Int32) : va_W := [(a, .inr (3, [.ref b])), (b, .inl (yI, n, .inl f))]
abbrev lt_Bk (yI : ClassId) (B : Nat → Nat) (L : Int32) (w s q : Nat → Int32) : va_W := [(B 1, .inr (0, [.ref (B 2), .ref (B 4), .ref (B 6), .int L])), (B 2, .inr (3, [.ref (B 3)])), (B 3, .inl (yI, 30, .inl w)), (B 4, .inr (3, [.ref (B 5)])), (B 5, .inl (yI, 30, .inl s)), (B 6, .inr (3, [.ref (B 7)])), (B 7, .inl (yI, 60, .inl q))]
abbrev lt_Ps (yI : ClassId) (B : Nat → Nat) (z : Int32) (pg nu gu pr : Nat → Int32) : va_W := [(B 8, .inr (5, [.ref (B 9), .ref (B 11), .ref (B 13), .ref (B 15), .int z])), (B 9, .inr (3, [.ref (B 10)])), (B 10, .inl (yI, 80, .inl pg)), (B 11, .inr (3, [.ref (B 12)])), (B 12, .inl (yI, 80, .inl nu)), (B 13, .inr (3, [.ref (B 14)])), (B 14, .inl (yI, 80, .inl gu)), (B 15, .inr (3, [.ref (B 16)])), (B 16, .inl (yI, 80, .inl pr))]
abbrev lt_St (yI : ClassId) (B : Nat → Nat) (i : Nat → Int32) (a : Nat → Nat → Int32) : va_W := [(B 0, .inr (6, [.ref (B 1), .ref (B 8), .ref (B 17), .int (i 1), .int (i 8), .int (i 4), .int (i 5), .int (i 6), .int (i 7), .int (i 3)])), (B 1, .inr (0, [.ref (B 2), .ref (B 4), .ref (B 6), .int (i 0)])), (B 2, .inr (3, [.ref (B 3)])), (B 3, .inl (yI, 30, .inl (a 0))), (B 4, .inr (3, [.ref (B 5)])), (B 5, .inl (yI, 30, .inl (a 1))), (B 6, .inr (3, [.ref (B 7)])), (B 7, .inl (yI, 60, .inl (a 2))), (B 8, .inr (5, [.ref (B 9), .ref (B 11), .ref (B 13), .ref (B 15), .int (i 2)])), (B 9, .inr (3, [.ref (B 10)])), (B 10, .inl (yI, 80, .inl (a 3))), (B 11, .inr (3, [.ref (B 12)])), (B 12, .inl (yI, 80, .inl (a 4))), (B 13, .inr (3, [.ref (B 14)])), (B 14, .inl (yI, 80, .inl (a 5))), (B 15, .inr (3, [.ref (B 16)])), (B 16, .inl (yI, 80, .inl (a 6))), (B 17, .inr (3, [.ref (B 18)])), (B 18, .inl (yI, 3, .inl (a 7)))]
abbrev lt_Tx (yC : ClassId) (T : Nat → Nat) (len : Int32) (sg : Nat → Int32) : va_W := [(T 0, .inr (1, [.ref (T 1), .int len])), (T 1, .inl (yC, 60, .inl sg))]
abbrev lt_Pg (yI : ClassId) (P : Nat → Nat) (pi pa : Int32) (g ch : Nat → Int32) : va_W := [(P 0, .inr (4, [.ref (P 1), .ref (P 3), .int pi, .int pa])), (P 1, .inr (3, [.ref (P 2)])), (P 2, .inl (yI, 80, .inl g)), (P 3, .inr (3, [.ref (P 4)])), (P 4, .inl (yI, 60, .inl ch))]
abbrev lt_SV : Type := (Nat → Int32) × (Nat → Nat → Int32)
abbrev lt_Hi (yI yO : ClassId) (G : Nat → Nat) (z : Int32) (Bh : Nat → Nat → Nat) (Vh : Nat → lt_SV) : va_W := [(G 0, .inr (2, [.ref (G 1), .int z])), (G 1, .inl (yO, 4, .inr (.inr (.inr (.inr (fun k => some (Bh k 0)))))))] ++ (lt_St yI (Bh 0) (Vh 0).1 (Vh 0).2 ++ (lt_St yI (Bh 1) (Vh 1).1 (Vh 1).2 ++ (lt_St yI (Bh 2) (Vh 2).1 (Vh 2).2 ++ lt_St yI (Bh 3) (Vh 3).1 (Vh 3).2)))
theorem lt_sw0_2 {x : Int32} (h0 : ¬ x = 0) (h1 : ¬ x = 1) (h2 : ¬ x = 2) : x.toInt < 0 ∨ 2 < x.toInt := by
  have g0 : ¬ x.toInt = 0 := fun q => h0 (Int32.toInt_inj.mp (by rw [q]; rfl))
  have g1 : ¬ x.toInt = 1 := fun q => h1 (Int32.toInt_inj.mp (by rw [q]; rfl))
  have g2 : ¬ x.toInt = 2 := fun q => h2 (Int32.toInt_inj.mp (by rw [q]; rfl))
  omega
theorem lt_sw0_4 {x : Int32} (h0 : ¬ x = 0) (h1 : ¬ x = 1) (h2 : ¬ x = 2) (h3 : ¬ x = 3) (h4 : ¬ x = 4) : x.toInt < 0 ∨ 4 < x.toInt := by
  have g0 : ¬ x.toInt = 0 := fun q => h0 (Int32.toInt_inj.mp (by rw [q]; rfl))
  have g1 : ¬ x.toInt = 1 := fun q => h1 (Int32.toInt_inj.mp (by rw [q]; rfl))
  have g2 : ¬ x.toInt = 2 := fun q => h2 (Int32.toInt_inj.mp (by rw [q]; rfl))
  have g3 : ¬ x.toInt = 3 := fun q => h3 (Int32.toInt_inj.mp (by rw [q]; rfl))
  have g4 : ¬ x.toInt = 4 := fun q => h4 (Int32.toInt_inj.mp (by rw [q]; rfl))
  omega
theorem lt_sw0_6 {x : Int32} (h0 : ¬ x = 0) (h1 : ¬ x = 1) (h2 : ¬ x = 2) (h3 : ¬ x = 3) (h4 : ¬ x = 4) (h5 : ¬ x = 5) (h6 : ¬ x = 6) : x.toInt < 0 ∨ 6 < x.toInt := by
  have g0 : ¬ x.toInt = 0 := fun q => h0 (Int32.toInt_inj.mp (by rw [q]; rfl))
  have g1 : ¬ x.toInt = 1 := fun q => h1 (Int32.toInt_inj.mp (by rw [q]; rfl))
  have g2 : ¬ x.toInt = 2 := fun q => h2 (Int32.toInt_inj.mp (by rw [q]; rfl))
  have g3 : ¬ x.toInt = 3 := fun q => h3 (Int32.toInt_inj.mp (by rw [q]; rfl))
  have g4 : ¬ x.toInt = 4 := fun q => h4 (Int32.toInt_inj.mp (by rw [q]; rfl))
  have g5 : ¬ x.toInt = 5 := fun q => h5 (Int32.toInt_inj.mp (by rw [q]; rfl))
  have g6 : ¬ x.toInt = 6 := fun q => h6 (Int32.toInt_inj.mp (by rw [q]; rfl))
  omega
theorem lt_sw0_16 {x : Int32} (h0 : ¬ x = 0) (h1 : ¬ x = 1) (h2 : ¬ x = 2) (h3 : ¬ x = 3) (h4 : ¬ x = 4) (h5 : ¬ x = 5) (h6 : ¬ x = 6) (h7 : ¬ x = 7) (h8 : ¬ x = 8) (h9 : ¬ x = 9) (h10 : ¬ x = 10) (h11 : ¬ x = 11) (h12 : ¬ x = 12) (h13 : ¬ x = 13) (h14 : ¬ x = 14) (h15 : ¬ x = 15) (h16 : ¬ x = 16) : x.toInt < 0 ∨ 16 < x.toInt := by
  have g0 : ¬ x.toInt = 0 := fun q => h0 (Int32.toInt_inj.mp (by rw [q]; rfl))
  have g1 : ¬ x.toInt = 1 := fun q => h1 (Int32.toInt_inj.mp (by rw [q]; rfl))
  have g2 : ¬ x.toInt = 2 := fun q => h2 (Int32.toInt_inj.mp (by rw [q]; rfl))
  have g3 : ¬ x.toInt = 3 := fun q => h3 (Int32.toInt_inj.mp (by rw [q]; rfl))
  have g4 : ¬ x.toInt = 4 := fun q => h4 (Int32.toInt_inj.mp (by rw [q]; rfl))
  have g5 : ¬ x.toInt = 5 := fun q => h5 (Int32.toInt_inj.mp (by rw [q]; rfl))
  have g6 : ¬ x.toInt = 6 := fun q => h6 (Int32.toInt_inj.mp (by rw [q]; rfl))
  have g7 : ¬ x.toInt = 7 := fun q => h7 (Int32.toInt_inj.mp (by rw [q]; rfl))
  have g8 : ¬ x.toInt = 8 := fun q => h8 (Int32.toInt_inj.mp (by rw [q]; rfl))
  have g9 : ¬ x.toInt = 9 := fun q => h9 (Int32.toInt_inj.mp (by rw [q]; rfl))
  have g10 : ¬ x.toInt = 10 := fun q => h10 (Int32.toInt_inj.mp (by rw [q]; rfl))
  have g11 : ¬ x.toInt = 11 := fun q => h11 (Int32.toInt_inj.mp (by rw [q]; rfl))
  have g12 : ¬ x.toInt = 12 := fun q => h12 (Int32.toInt_inj.mp (by rw [q]; rfl))
  have g13 : ¬ x.toInt = 13 := fun q => h13 (Int32.toInt_inj.mp (by rw [q]; rfl))
  have g14 : ¬ x.toInt = 14 := fun q => h14 (Int32.toInt_inj.mp (by rw [q]; rfl))
  have g15 : ¬ x.toInt = 15 := fun q => h15 (Int32.toInt_inj.mp (by rw [q]; rfl))
  have g16 : ¬ x.toInt = 16 := fun q => h16 (Int32.toInt_inj.mp (by rw [q]; rfl))
  omega
theorem lt_sw3_6 {x : Int32} (h3 : ¬ x = 3) (h4 : ¬ x = 4) (h5 : ¬ x = 5) (h6 : ¬ x = 6) : x.toInt < 3 ∨ 6 < x.toInt := by
  have g3 : ¬ x.toInt = 3 := fun q => h3 (Int32.toInt_inj.mp (by rw [q]; rfl))
  have g4 : ¬ x.toInt = 4 := fun q => h4 (Int32.toInt_inj.mp (by rw [q]; rfl))
  have g5 : ¬ x.toInt = 5 := fun q => h5 (Int32.toInt_inj.mp (by rw [q]; rfl))
  have g6 : ¬ x.toInt = 6 := fun q => h6 (Int32.toInt_inj.mp (by rw [q]; rfl))
  omega
theorem lt_sw0_22 {x : Int32} (h0 : ¬ x = 0) (h1 : ¬ x = 1) (h2 : ¬ x = 2) (h3 : ¬ x = 3) (h4 : ¬ x = 4) (h5 : ¬ x = 5) (h6 : ¬ x = 6) (h7 : ¬ x = 7) (h8 : ¬ x = 8) (h9 : ¬ x = 9) (h10 : ¬ x = 10) (h11 : ¬ x = 11) (h12 : ¬ x = 12) (h13 : ¬ x = 13) (h14 : ¬ x = 14) (h15 : ¬ x = 15) (h16 : ¬ x = 16) (h17 : ¬ x = 17) (h18 : ¬ x = 18) (h19 : ¬ x = 19) (h20 : ¬ x = 20) (h21 : ¬ x = 21) (h22 : ¬ x = 22) : x.toInt < 0 ∨ 22 < x.toInt := by
  have g0 : ¬ x.toInt = 0 := fun q => h0 (Int32.toInt_inj.mp (by rw [q]; rfl))
  have g1 : ¬ x.toInt = 1 := fun q => h1 (Int32.toInt_inj.mp (by rw [q]; rfl))
  have g2 : ¬ x.toInt = 2 := fun q => h2 (Int32.toInt_inj.mp (by rw [q]; rfl))
  have g3 : ¬ x.toInt = 3 := fun q => h3 (Int32.toInt_inj.mp (by rw [q]; rfl))
  have g4 : ¬ x.toInt = 4 := fun q => h4 (Int32.toInt_inj.mp (by rw [q]; rfl))
  have g5 : ¬ x.toInt = 5 := fun q => h5 (Int32.toInt_inj.mp (by rw [q]; rfl))
  have g6 : ¬ x.toInt = 6 := fun q => h6 (Int32.toInt_inj.mp (by rw [q]; rfl))
  have g7 : ¬ x.toInt = 7 := fun q => h7 (Int32.toInt_inj.mp (by rw [q]; rfl))
  have g8 : ¬ x.toInt = 8 := fun q => h8 (Int32.toInt_inj.mp (by rw [q]; rfl))
  have g9 : ¬ x.toInt = 9 := fun q => h9 (Int32.toInt_inj.mp (by rw [q]; rfl))
  have g10 : ¬ x.toInt = 10 := fun q => h10 (Int32.toInt_inj.mp (by rw [q]; rfl))
  have g11 : ¬ x.toInt = 11 := fun q => h11 (Int32.toInt_inj.mp (by rw [q]; rfl))
  have g12 : ¬ x.toInt = 12 := fun q => h12 (Int32.toInt_inj.mp (by rw [q]; rfl))
  have g13 : ¬ x.toInt = 13 := fun q => h13 (Int32.toInt_inj.mp (by rw [q]; rfl))
  have g14 : ¬ x.toInt = 14 := fun q => h14 (Int32.toInt_inj.mp (by rw [q]; rfl))
  have g15 : ¬ x.toInt = 15 := fun q => h15 (Int32.toInt_inj.mp (by rw [q]; rfl))
  have g16 : ¬ x.toInt = 16 := fun q => h16 (Int32.toInt_inj.mp (by rw [q]; rfl))
  have g17 : ¬ x.toInt = 17 := fun q => h17 (Int32.toInt_inj.mp (by rw [q]; rfl))
  have g18 : ¬ x.toInt = 18 := fun q => h18 (Int32.toInt_inj.mp (by rw [q]; rfl))
  have g19 : ¬ x.toInt = 19 := fun q => h19 (Int32.toInt_inj.mp (by rw [q]; rfl))
  have g20 : ¬ x.toInt = 20 := fun q => h20 (Int32.toInt_inj.mp (by rw [q]; rfl))
  have g21 : ¬ x.toInt = 21 := fun q => h21 (Int32.toInt_inj.mp (by rw [q]; rfl))
  have g22 : ¬ x.toInt = 22 := fun q => h22 (Int32.toInt_inj.mp (by rw [q]; rfl))
  omega
abbrev lt_Ro (yI : ClassId) (b n : Nat) (f : Nat → Int32) : va_W := [(b, .inl (yI, n, .inl f))]
