/-! ===== the law's small methods ===== -/
theorem lo_B.of {p : Program} {s : State} {m : MethodId} {args : Array Value} {c : Code} {cc : ByteArray} {nL : Nat} {Ts : List Cond} {D : va_G} {yI yC yO : ClassId} {ws : va_W} {sz : Nat} (hx : p.tables.exec = Jvm.exec) (hb : c.code = cc) (hml : c.maxLocals = nL) (hown : s.vm.findClass RL = some m.cls) (hts : ∀ w ∈ Ts, w.before args s = true) (hM : lo_M D yI yC yO ws sz s) : lo_B p s m args c cc nL Ts D yI yC yO (va_A ws sz) :=
  ⟨⟨hx, hb, hml, hown, hts⟩, hM.1.2.2.1, hM.2.1, hM.2.2.1, hM.2.2.2, fun q h => Or.inr (by rw [← hM.1.1]; exact h)⟩
theorem lo_M.S {D : va_G} {yI yC yO : ClassId} {ws : va_W} {sz : Nat} {s : State} (hM : lo_M D yI yC yO ws sz s) : va_P D vwCl ws s.heap ∧ va_D (va_A ws sz) ws ∧ va_S (va_A ws sz) s.heap s.heap [] := ⟨hM.1.2.1, hM.1.2.2.2.self, va_S.rf⟩
section LOD
variable {p : Program} {l : Launch} {e : Env} {R : Room} {s : State} {m : MethodId} {args : Array Value} {below : List Frame} {meth : Method} {c : Code} {H : Heap} {locs : List Loc} {cells slots : Nat} {Q : State → Prop}
variable {pc : Nat} {ls : Array Slot} {rest st0 : List Value} {a : Array Value} {A : Nat → Prop} {mc ms : Nat} {D : va_G} {yI yC yO : ClassId} {cc : ByteArray} {nL : Nat} {Ts : List Cond}
/-- a new object -/
theorem lo_new {wr : va_W} (hB : lo_B p s m args c cc nL Ts D yI yC yO A) (hin : ∀ w ∈ wsX70, w ∈ Ts) (h1 : Cond.classLink RL 14 RX7 ∈ Ts) (h2 : Cond.instantiable RX7 7 ∈ Ts) (h3 : Cond.initialized RX7 ∈ Ts) (h4 : Cond.methodLink RL 76 yX7_init ∈ Ts) (h5 : Cond.instanceMethod yX7_init ∈ Ts) (hG : GoodIn Ts wsX7_init) (hR : 5 + 1 ≤ R.frames ∧ 8 + (1 + 11) + 150 ≤ R.locals) (hsize : ls.size = nL) (hW : ((Value.ref 0 :: rest).map fun v => v.category).sum ≤ 8)
    (d0 : decode cc pc = .ok (.new 14, 3)) (d1 : decode cc (pc + 3) = .ok (.dup, 1)) (d2 : decode cc (pc + 3 + 1) = .ok (.invokespecial 76, 3)) (hc : cells + 143 ≤ R.cells) (hs : slots + 3511 ≤ R.slots) (hP : va_P D vwCl wr H) (hD : va_D A wr) (hS : va_S A s.heap H locs)
    (kk : ∀ (h : Nat) (Ad : Nat → Nat → Nat) (u : lo_U) (H1 : Heap) (locs1 : List Loc), va_P D vwCl (wr ++ lo_O yI yC yO h Ad lo_t0 u) H1 → va_D A (wr ++ lo_O yI yC yO h Ad lo_t0 u) → va_S A s.heap H1 locs1 → W p l e R s m args below meth c H1 locs1 (cells + 143) (slots + 3511) Q (F0 m (pc + 3 + 1 + 3) ls (.ref h :: rest))) : W p l e R s m args below meth c H locs cells slots Q (F0 m pc ls rest) := by
  obtain ⟨⟨hx, hb, hml, hown, hts⟩, hK, hAO, hZf, hZm, hA⟩ := hB
  refine va_new (ci := 7) (fs := [.null, .null, .null, .null, .null, .null, .int 0]) (C := RX7) (T := TX7) (N := 7) hx hb hts hin tyX7 tyX7_ok hown (hts _ h1) (hts _ h2) (hts _ h3) hK.1 hP hD hS hA rfl (fun j hj => by rcases (show j = 0 ∨ j = 1 ∨ j = 2 ∨ j = 3 ∨ j = 4 ∨ j = 5 ∨ j = 6 by omega) with rfl | rfl | rfl | rfl | rfl | rfl | rfl <;> rfl) (by omega) (by omega) d0 (fun q H hP hD hS => ?_)
  refine lv_dup hx hb d1 rfl ?_
  have hF := lo_subA (sz := H.size) hD (fun q h => hA q (Nat.le_trans hS.1 h))
  refine va_callv (va_runI (As := []) (rest := .ref q :: rest) ⟨hx, hb, hml, hown, hts⟩ (c_X7_init l D yI yC yO q H.size) (cwI 0 hts hG rfl rfl rfl (hts _ h3) (hts _ h4) (hts _ h5) rfl (by decide +kernel) hR) (lt_qSf hK (lo_Pr hP) (lo_Dr hD) hAO hZf hS hF) rfl rfl hsize rfl (lv_room hW) d2 ⟨by omega, by omega⟩) hS (fun q _ h => hF q h) hF (fun u t H1 locs1 ht hvm hw hB hz1 hk1 hS1 => ?_)
  obtain ⟨hP1, hD1⟩ := hB
  rw [ht] at hP1
  obtain ⟨hP2, hD2⟩ := lo_join hP hD hk1 hF hP1 hD1
  have e1 : cells + 1 + 142 = cells + 143 := by omega
  have e2 : slots + 7 + 3504 = slots + 3511 := by omega
  rw [e1, e2]
  exact kk q u ((fun k => u (k + 10)), 0, 0, (fun _ => 0), (fun _ => 0)) H1 locs1 hP2 hD2 hS1
/-- a call on the object that stands alone: its answer and its state under other names -/
theorem lo_call {X : Int32 × lo_T} {v : Int32} {σ σ' : lo_T} {u : lo_U} {h : Nat} {Ad : Nat → Nat → Nat} {y : MethodName} {bytes : ByteArray} {maxL index n : Nat} {wsn : List Cond} {rm : Room} {As : List Value} (hB : lo_B p s m args c cc nL Ts D yI yC yO A)
    (hM : Met l y wsn rm (va_Pc (.ref h :: As) (lo_M D yI yC yO (lo_O yI yC yO h Ad σ u) H.size)) (lo_Q D X.1 (lo_O yI yC yO h Ad X.2) (va_A (lo_O yI yC yO h Ad σ u) H.size)) 0 0 (va_A (lo_O yI yC yO h Ad σ u) H.size)) (cw : CallW R s args RL RX7 index y bytes maxL (some .int) wsn rm 0 0 n)
    (hn : As.length = n) (hsize : ls.size = nL) (hst : st0 = As.reverse ++ .ref h :: rest) (hW : (rest.map fun v => v.category).sum ≤ 8) (hdg : decode cc pc = .ok (.invokevirtual index, 3)) (hc : cells ≤ R.cells) (hs : slots ≤ R.slots) (hv : X.1 = v) (hσ : X.2 = σ')
    (hP : va_P D vwCl (lo_O yI yC yO h Ad σ u) H) (hD : va_D A (lo_O yI yC yO h Ad σ u)) (hS : va_S A s.heap H locs)
    (kk : ∀ (u : lo_U) (H1 : Heap) (locs1 : List Loc), va_P D vwCl (lo_O yI yC yO h Ad σ' u) H1 → va_D A (lo_O yI yC yO h Ad σ' u) → va_S A s.heap H1 locs1 → W p l e R s m args below meth c H1 locs1 cells slots Q (F0 m (pc + 3) ls (.int v :: rest))) : W p l e R s m args below meth c H locs cells slots Q (F0 m pc ls st0) := by
  subst hv
  subst hσ
  exact lo_callV (wr := []) hB hM cw (lo_O0 yI yC yO h Ad σ u) hn hsize hst hW hdg hc hs hP hD hS kk
/-- the same, with the rest in front -/
theorem lo_callr {wr : va_W} {X : Int32 × lo_T} {v : Int32} {σ σ' : lo_T} {u : lo_U} {h : Nat} {Ad : Nat → Nat → Nat} {y : MethodName} {bytes : ByteArray} {maxL index n : Nat} {wsn : List Cond} {rm : Room} {As : List Value} (hB : lo_B p s m args c cc nL Ts D yI yC yO A)
    (hM : Met l y wsn rm (va_Pc (.ref h :: As) (lo_M D yI yC yO (lo_O yI yC yO h Ad σ u) H.size)) (lo_Q D X.1 (lo_O yI yC yO h Ad X.2) (va_A (lo_O yI yC yO h Ad σ u) H.size)) 0 0 (va_A (lo_O yI yC yO h Ad σ u) H.size)) (cw : CallW R s args RL RX7 index y bytes maxL (some .int) wsn rm 0 0 n)
    (hn : As.length = n) (hsize : ls.size = nL) (hst : st0 = As.reverse ++ .ref h :: rest) (hW : (rest.map fun v => v.category).sum ≤ 8) (hdg : decode cc pc = .ok (.invokevirtual index, 3)) (hc : cells ≤ R.cells) (hs : slots ≤ R.slots) (hv : X.1 = v) (hσ : X.2 = σ')
    (hP : va_P D vwCl (wr ++ lo_O yI yC yO h Ad σ u) H) (hD : va_D A (wr ++ lo_O yI yC yO h Ad σ u)) (hS : va_S A s.heap H locs)
    (kk : ∀ (u : lo_U) (H1 : Heap) (locs1 : List Loc), va_P D vwCl (wr ++ lo_O yI yC yO h Ad σ' u) H1 → va_D A (wr ++ lo_O yI yC yO h Ad σ' u) → va_S A s.heap H1 locs1 → W p l e R s m args below meth c H1 locs1 cells slots Q (F0 m (pc + 3) ls (.int v :: rest))) : W p l e R s m args below meth c H locs cells slots Q (F0 m pc ls st0) := by
  subst hv
  subst hσ
  exact lo_callV hB hM cw (lo_O0 yI yC yO h Ad σ u) hn hsize hst hW hdg hc hs hP hD hS kk
/-- a method of the law that is handed the object (alone) -/
theorem lo_calls {X : Int32 × lo_T} {v : Int32} {σ σ' : lo_T} {u : lo_U} {h : Nat} {Ad : Nat → Nat → Nat} {y : MethodName} {bytes : ByteArray} {maxL index n : Nat} {ret : Option FieldType} {wsn : List Cond} {rm : Room} {As : List Value} (hB : lo_B p s m args c cc nL Ts D yI yC yO A)
    (hM : Met l y wsn rm (va_Pc As (lo_M D yI yC yO (lo_O yI yC yO h Ad σ u) H.size)) (lo_Q D X.1 (lo_O yI yC yO h Ad X.2) (va_A (lo_O yI yC yO h Ad σ u) H.size)) 0 0 (va_A (lo_O yI yC yO h Ad σ u) H.size)) (cw : CallB R s args RL index y bytes maxL ret wsn rm 0 0 n ∧ (Cond.static y).before args s = true)
    (hn : As.length = n) (hsize : ls.size = nL) (hst : st0 = As.reverse ++ rest) (hW : (rest.map fun v => v.category).sum ≤ 8) (hdg : decode cc pc = .ok (.invokestatic index, 3)) (hc : cells ≤ R.cells) (hs : slots ≤ R.slots) (hv : X.1 = v) (hσ : X.2 = σ')
    (hP : va_P D vwCl (lo_O yI yC yO h Ad σ u) H) (hD : va_D A (lo_O yI yC yO h Ad σ u)) (hS : va_S A s.heap H locs)
    (kk : ∀ (u : lo_U) (H1 : Heap) (locs1 : List Loc), va_P D vwCl (lo_O yI yC yO h Ad σ' u) H1 → va_D A (lo_O yI yC yO h Ad σ' u) → va_S A s.heap H1 locs1 → W p l e R s m args below meth c H1 locs1 cells slots Q (F0 m (pc + 3) ls (.int v :: rest))) : W p l e R s m args below meth c H locs cells slots Q (F0 m pc ls st0) := by
  subst hv
  subst hσ
  exact lo_callS (mc := 0) (ms := 0) (wr := []) hB hM cw hn hsize hst hW hdg hc hs hP hD hS kk
theorem lo_callsr {wr : va_W} {X : Int32 × lo_T} {v : Int32} {σ σ' : lo_T} {u : lo_U} {h : Nat} {Ad : Nat → Nat → Nat} {y : MethodName} {bytes : ByteArray} {maxL index n : Nat} {ret : Option FieldType} {wsn : List Cond} {rm : Room} {As : List Value} (hB : lo_B p s m args c cc nL Ts D yI yC yO A)
    (hM : Met l y wsn rm (va_Pc As (lo_M D yI yC yO (lo_O yI yC yO h Ad σ u) H.size)) (lo_Q D X.1 (lo_O yI yC yO h Ad X.2) (va_A (lo_O yI yC yO h Ad σ u) H.size)) 0 0 (va_A (lo_O yI yC yO h Ad σ u) H.size)) (cw : CallB R s args RL index y bytes maxL ret wsn rm 0 0 n ∧ (Cond.static y).before args s = true)
    (hn : As.length = n) (hsize : ls.size = nL) (hst : st0 = As.reverse ++ rest) (hW : (rest.map fun v => v.category).sum ≤ 8) (hdg : decode cc pc = .ok (.invokestatic index, 3)) (hc : cells ≤ R.cells) (hs : slots ≤ R.slots) (hv : X.1 = v) (hσ : X.2 = σ')
    (hP : va_P D vwCl (wr ++ lo_O yI yC yO h Ad σ u) H) (hD : va_D A (wr ++ lo_O yI yC yO h Ad σ u)) (hS : va_S A s.heap H locs)
    (kk : ∀ (u : lo_U) (H1 : Heap) (locs1 : List Loc), va_P D vwCl (wr ++ lo_O yI yC yO h Ad σ' u) H1 → va_D A (wr ++ lo_O yI yC yO h Ad σ' u) → va_S A s.heap H1 locs1 → W p l e R s m args below meth c H1 locs1 cells slots Q (F0 m (pc + 3) ls (.int v :: rest))) : W p l e R s m args below meth c H locs cells slots Q (F0 m pc ls st0) := by
  subst hv
  subst hσ
  exact lo_callS (mc := 0) (ms := 0) hB hM cw hn hsize hst hW hdg hc hs hP hD hS kk
end LOD
/-! ===== seen: what shows of the state now ===== -/
def lo_s1 (σ : lo_T) : Nat → Int64
  | 0 => 73
  | k + 1 => 31 * lo_s1 σ k + ((lo_count σ (nI k)).1).toInt64
def lo_s2 (σ : lo_T) (b : Int64) : Nat → Int64
  | 0 => b
  | k + 1 => 31 * lo_s2 σ b k + ((lo_leaf σ (nI k / 3) (nI k - nI k / 3 * 3)).1).toInt64
def lo_s3 (σ : lo_T) (b : Int64) : Nat → Int64
  | 0 => b
  | k + 1 => 31 * (31 * (31 * lo_s3 σ b k + ((lo_page σ (nI k) 0).1).toInt64) + ((lo_page σ (nI k) 1).1).toInt64) + ((lo_page σ (nI k) 2).1).toInt64
def lo_s4 (σ : lo_T) (b : Int64) : Nat → Int64
  | 0 => b
  | k + 1 => 31 * lo_s4 σ b k + ((lo_picture σ (nI k / 4) (if nI k - nI k / 4 * 4 = 3 then 6 else nI k - nI k / 4 * 4)).1).toInt64
def lo_seen (σ : lo_T) : Int64 := 31 * lo_s4 σ (lo_s3 σ (lo_s2 σ (lo_s1 σ 15) (3 * (σ.2.2.2.1.1 0).toNatClampNeg)) (2 * (σ.2.2.2.1.1 0).toNatClampNeg)) (4 * (σ.2.2.2.1.1 2).toNatClampNeg) + ((lo_best σ).1).toInt64
/-- there is a book; the pictures have room -/
def lo_G (σ : lo_T) : Prop := ∃ L Z : Nat, 1 ≤ L ∧ L ≤ 30 ∧ Z ≤ 80 ∧ σ.2.2.2.1.1 0 = nI L ∧ σ.2.2.2.1.1 2 = nI Z
abbrev lo_rm7 : Room := { frames := 7, cells := 0, slots := 0, locals := 210 }
theorem kw_seen_count {args : Array Value} {s : State} (hts : ∀ w ∈ wsL_seen, w.before args s = true) : CallW lo_rm7 s args RL RX7 13 yX7_count cX7_count 2 (some .int) wsX7_count ({ frames := 6, cells := 0, slots := 0, locals := 180 }) 0 0 1 := cwV 1 hts gL_seen_X7_count rfl rfl rfl (by decide +kernel) ⟨Nat.le_of_ble_eq_true rfl, Nat.le_of_ble_eq_true rfl⟩
theorem kw_seen_leaf {args : Array Value} {s : State} (hts : ∀ w ∈ wsL_seen, w.before args s = true) : CallW lo_rm7 s args RL RX7 19 yX7_leaf cX7_leaf 3 (some .int) wsX7_leaf ({ frames := 2, cells := 0, slots := 0, locals := 60 }) 0 0 2 := cwV 2 hts gL_seen_X7_leaf rfl rfl rfl (by decide +kernel) ⟨Nat.le_of_ble_eq_true rfl, Nat.le_of_ble_eq_true rfl⟩
theorem kw_seen_page {args : Array Value} {s : State} (hts : ∀ w ∈ wsL_seen, w.before args s = true) : CallW lo_rm7 s args RL RX7 23 yX7_page cX7_page 3 (some .int) wsX7_page ({ frames := 5, cells := 0, slots := 0, locals := 150 }) 0 0 2 := cwV 2 hts gL_seen_X7_page rfl rfl rfl (by decide +kernel) ⟨Nat.le_of_ble_eq_true rfl, Nat.le_of_ble_eq_true rfl⟩
theorem kw_seen_picture {args : Array Value} {s : State} (hts : ∀ w ∈ wsL_seen, w.before args s = true) : CallW lo_rm7 s args RL RX7 26 yX7_picture cX7_picture 4 (some .int) wsX7_picture ({ frames := 5, cells := 0, slots := 0, locals := 150 }) 0 0 2 := cwV 2 hts gL_seen_X7_picture rfl rfl rfl (by decide +kernel) ⟨Nat.le_of_ble_eq_true rfl, Nat.le_of_ble_eq_true rfl⟩
theorem kw_seen_best {args : Array Value} {s : State} (hts : ∀ w ∈ wsL_seen, w.before args s = true) : CallW lo_rm7 s args RL RX7 29 yX7_best cX7_best 2 (some .int) wsX7_best ({ frames := 3, cells := 0, slots := 0, locals := 90 }) 0 0 0 := cwV 0 hts gL_seen_X7_best rfl rfl rfl (by decide +kernel) ⟨Nat.le_of_ble_eq_true rfl, Nat.le_of_ble_eq_true rfl⟩
section LOE
variable {p : Program} {l : Launch} {e : Env} {s : State} {m : MethodId} {args : Array Value} {below : List Frame} {meth : Method} {c : Code} {Q : State → Prop} {A : Nat → Prop} {D : va_G} {yI yC yO : ClassId}
/-- how the object stands in a loop -/
def lo_I (D : va_G) (yI yC yO : ClassId) (A : Nat → Prop) (H0 : Heap) (h : Nat) (Ad : Nat → Nat → Nat) (σ : lo_T) (H : Heap) (locs : List Loc) : Prop := ∃ u : lo_U, va_P D vwCl (lo_O yI yC yO h Ad σ u) H ∧ va_D A (lo_O yI yC yO h Ad σ u) ∧ va_S A H0 H locs
set_option maxHeartbeats 4000000 in
set_option maxRecDepth 100000 in
theorem seen_l1 (hB : lo_B p s m args c cL_seen 4 wsL_seen D yI yC yO A) {h : Nat} {Ad : Nat → Nat → Nat} {σ : lo_T} (kk : ∀ (H : Heap) (locs : List Loc) (ls : Array Slot), lo_I D yI yC yO A s.heap h Ad σ H locs → lv_has ls 4 [(3, .int 15), (1, .long (lo_s1 σ 15)), (0, .ref h)] → W p l e lo_rm7 s m args below meth c H locs 0 0 Q (F0 m 31 ls [])) :
    ∀ (n k : Nat), k + n = 15 → ∀ (H : Heap) (locs : List Loc) (ls : Array Slot), lo_I D yI yC yO A s.heap h Ad σ H locs → lv_has ls 4 [(3, .int (nI k)), (1, .long (lo_s1 σ k)), (0, .ref h)] → W p l e lo_rm7 s m args below meth c H locs 0 0 Q (F0 m 6 ls []) := by
  have hx := hB.1.1
  have hb := hB.1.2.1
  have hown := hB.1.2.2.2.1
  have hts := hB.1.2.2.2.2
  intro n
  induction n with
  | zero =>
    intro k hk H locs ls hI hl
    obtain rfl : k = 15 := by omega
    refine lv_iload_n hx hb dL_seen_6 rfl (lv_at hl 0 rfl) ?_
    refine lv_bipush (v := 15) hx hb dL_seen_7 (by decide) ?_
    refine lv_icmp_ge (tgt := 31) hx hb dL_seen_9 (by decide) (fun _ => kk H locs ls hI hl) (fun q => absurd (show (15 : Int32) ≤ nI 15 by decide) q)
  | succ n ih =>
    intro k hk H locs ls hI hl
    refine lv_iload_n hx hb dL_seen_6 rfl (lv_at hl 0 rfl) ?_
    refine lv_bipush (v := 15) hx hb dL_seen_7 (by decide) ?_
    refine lv_icmp_ge (tgt := 31) hx hb dL_seen_9 (by decide) (fun q => absurd q (nI_ge (a := k) (b := 15) (by omega) (by decide))) (fun _ => ?_)
    refine lv_ldc2 (v := 31) hx hb hown (hts (.constantLong RL 11 31) (by decide +kernel)) dL_seen_12 ?_
    refine lv_lload_n hx hb dL_seen_15 rfl (lv_at hl 1 rfl) ?_
    refine lv_lmul hx hb dL_seen_16 ?_
    refine lv_aload_n hx hb dL_seen_17 rfl (lv_at hl 2 rfl) ?_
    refine lv_iload_n hx hb dL_seen_18 rfl (lv_at hl 0 rfl) ?_
    obtain ⟨u, hP, hD, hS⟩ := hI
    refine lo_call (As := [.int (nI k)]) hB (lo_c_count l D yI yC yO h Ad σ u (nI k) _) (kw_seen_count hts) rfl hl.1 rfl (Nat.le_of_ble_eq_true rfl) dL_seen_19 (Nat.zero_le _) (Nat.zero_le _) rfl rfl hP hD hS (fun u H locs hP hD hS => ?_)
    refine lv_i2l hx hb dL_seen_22 rfl ?_
    refine lv_ladd hx hb dL_seen_23 ?_
    refine lv_lstore_n (lv' := [(1, .long (lo_s1 σ (k + 1))), (3, .int (nI k)), (0, .ref h)]) hx hb dL_seen_24 rfl hl (by decide) rfl (fun ls hl => ?_)
    refine lv_iinc (v := nI k + 1) (lv' := [(3, .int (nI k + 1)), (1, .long (lo_s1 σ (k + 1))), (0, .ref h)]) hx hb dL_seen_25 hl (k := 1) rfl rfl (by decide) rfl (fun ls hl => ?_)
    refine lv_goto (tgt := 6) hx hb dL_seen_28 (by decide) ?_
    rw [nI_1] at hl
    exact ih (k + 1) (by omega) _ _ _ ⟨u, hP, hD, hS⟩ hl
set_option maxHeartbeats 4000000 in
set_option maxRecDepth 100000 in
theorem seen_l2 (hB : lo_B p s m args c cL_seen 4 wsL_seen D yI yC yO A) {h : Nat} {Ad : Nat → Nat → Nat} {σ : lo_T} {L : Nat} (hL : L ≤ 30) (eL : σ.2.2.2.1.1 0 = nI L) {b : Int64} (kk : ∀ (H : Heap) (locs : List Loc) (ls : Array Slot), lo_I D yI yC yO A s.heap h Ad σ H locs → lv_has ls 4 [(3, .int (nI (3 * L))), (1, .long (lo_s2 σ b (3 * L))), (0, .ref h)] → W p l e lo_rm7 s m args below meth c H locs 0 0 Q (F0 m 68 ls [])) :
    ∀ (n k : Nat), k + n = 3 * L → ∀ (H : Heap) (locs : List Loc) (ls : Array Slot), lo_I D yI yC yO A s.heap h Ad σ H locs → lv_has ls 4 [(3, .int (nI k)), (1, .long (lo_s2 σ b k)), (0, .ref h)] → W p l e lo_rm7 s m args below meth c H locs 0 0 Q (F0 m 33 ls []) := by
  have hx := hB.1.1
  have hb := hB.1.2.1
  have hown := hB.1.2.2.2.1
  have hts := hB.1.2.2.2.2
  have eM : (3 : Int32) * nI L = nI (3 * L) := pk_mul 3 L
  intro n
  induction n with
  | zero =>
    intro k hk H locs ls hI hl
    obtain rfl : k = 3 * L := by omega
    refine lv_iload_n hx hb dL_seen_33 rfl (lv_at hl 0 rfl) ?_
    refine lv_iconst (v := 3) hx hb dL_seen_34 (by decide) ?_
    refine lv_aload_n hx hb dL_seen_35 rfl (lv_at hl 2 rfl) ?_
    refine lv_iconst (v := 0) hx hb dL_seen_36 (by decide) ?_
    obtain ⟨u, hP, hD, hS⟩ := hI
    refine lo_call (As := [.int 0]) (v := nI L) hB (lo_c_count l D yI yC yO h Ad σ u 0 _) (kw_seen_count hts) rfl hl.1 rfl (Nat.le_of_ble_eq_true rfl) dL_seen_37 (Nat.zero_le _) (Nat.zero_le _) ((lo_n0 σ).trans eL) rfl hP hD hS (fun u H locs hP hD hS => ?_)
    refine lv_imul hx hb dL_seen_40 ?_
    refine lt_top (y := nI (3 * L)) eM ?_
    exact lv_icmp_ge (tgt := 68) hx hb dL_seen_41 (by decide) (fun _ => kk H locs ls ⟨u, hP, hD, hS⟩ hl) (fun q => absurd (Int32.le_refl _) q)
  | succ n ih =>
    intro k hk H locs ls hI hl
    refine lv_iload_n hx hb dL_seen_33 rfl (lv_at hl 0 rfl) ?_
    refine lv_iconst (v := 3) hx hb dL_seen_34 (by decide) ?_
    refine lv_aload_n hx hb dL_seen_35 rfl (lv_at hl 2 rfl) ?_
    refine lv_iconst (v := 0) hx hb dL_seen_36 (by decide) ?_
    obtain ⟨u, hP, hD, hS⟩ := hI
    refine lo_call (As := [.int 0]) (v := nI L) hB (lo_c_count l D yI yC yO h Ad σ u 0 _) (kw_seen_count hts) rfl hl.1 rfl (Nat.le_of_ble_eq_true rfl) dL_seen_37 (Nat.zero_le _) (Nat.zero_le _) ((lo_n0 σ).trans eL) rfl hP hD hS (fun u H locs hP hD hS => ?_)
    refine lv_imul hx hb dL_seen_40 ?_
    refine lt_top (y := nI (3 * L)) eM ?_
    refine lv_icmp_ge (tgt := 68) hx hb dL_seen_41 (by decide) (fun q => absurd q (nI_ge (a := k) (b := 3 * L) (by omega) (by omega))) (fun _ => ?_)
    refine lv_ldc2 (v := 31) hx hb hown (hts (.constantLong RL 11 31) (by decide +kernel)) dL_seen_44 ?_
    refine lv_lload_n hx hb dL_seen_47 rfl (lv_at hl 1 rfl) ?_
    refine lv_lmul hx hb dL_seen_48 ?_
    refine lv_aload_n hx hb dL_seen_49 rfl (lv_at hl 2 rfl) ?_
    refine lv_iload_n hx hb dL_seen_50 rfl (lv_at hl 0 rfl) ?_
    refine lv_iconst (v := 3) hx hb dL_seen_51 (by decide) ?_
    refine lv_idiv hx hb dL_seen_52 (by decide) ?_
    refine lv_iload_n hx hb dL_seen_53 rfl (lv_at hl 0 rfl) ?_
    refine lv_iconst (v := 3) hx hb dL_seen_54 (by decide) ?_
    refine lv_irem hx hb dL_seen_55 (by decide) ?_
    refine lo_call (As := [.int (nI k / 3), .int (nI k - nI k / 3 * 3)]) hB (lo_c_leaf l D yI yC yO h Ad σ u (nI k / 3) (nI k - nI k / 3 * 3) _) (kw_seen_leaf hts) rfl hl.1 rfl (Nat.le_of_ble_eq_true rfl) dL_seen_56 (Nat.zero_le _) (Nat.zero_le _) rfl rfl hP hD hS (fun u H locs hP hD hS => ?_)
    refine lv_i2l hx hb dL_seen_59 rfl ?_
    refine lv_ladd hx hb dL_seen_60 ?_
    refine lv_lstore_n (lv' := [(1, .long (lo_s2 σ b (k + 1))), (3, .int (nI k)), (0, .ref h)]) hx hb dL_seen_61 rfl hl (by decide) rfl (fun ls hl => ?_)
    refine lv_iinc (v := nI k + 1) (lv' := [(3, .int (nI k + 1)), (1, .long (lo_s2 σ b (k + 1))), (0, .ref h)]) hx hb dL_seen_62 hl (k := 1) rfl rfl (by decide) rfl (fun ls hl => ?_)
    refine lv_goto (tgt := 33) hx hb dL_seen_65 (by decide) ?_
    rw [nI_1] at hl
    exact ih (k + 1) (by omega) _ _ _ ⟨u, hP, hD, hS⟩ hl
set_option maxHeartbeats 4000000 in
set_option maxRecDepth 100000 in
theorem seen_l3 (hB : lo_B p s m args c cL_seen 4 wsL_seen D yI yC yO A) {h : Nat} {Ad : Nat → Nat → Nat} {σ : lo_T} {L : Nat} (hL : L ≤ 30) (eL : σ.2.2.2.1.1 0 = nI L) {b : Int64} (kk : ∀ (H : Heap) (locs : List Loc) (ls : Array Slot), lo_I D yI yC yO A s.heap h Ad σ H locs → lv_has ls 4 [(3, .int (nI (2 * L))), (1, .long (lo_s3 σ b (2 * L))), (0, .ref h)] → W p l e lo_rm7 s m args below meth c H locs 0 0 Q (F0 m 125 ls [])) :
    ∀ (n k : Nat), k + n = 2 * L → ∀ (H : Heap) (locs : List Loc) (ls : Array Slot), lo_I D yI yC yO A s.heap h Ad σ H locs → lv_has ls 4 [(3, .int (nI k)), (1, .long (lo_s3 σ b k)), (0, .ref h)] → W p l e lo_rm7 s m args below meth c H locs 0 0 Q (F0 m 70 ls []) := by
  have hx := hB.1.1
  have hb := hB.1.2.1
  have hown := hB.1.2.2.2.1
  have hts := hB.1.2.2.2.2
  have eM : (2 : Int32) * nI L = nI (2 * L) := pk_mul 2 L
  intro n
  induction n with
  | zero =>
    intro k hk H locs ls hI hl
    obtain rfl : k = 2 * L := by omega
    refine lv_iload_n hx hb dL_seen_70 rfl (lv_at hl 0 rfl) ?_
    refine lv_iconst (v := 2) hx hb dL_seen_71 (by decide) ?_
    refine lv_aload_n hx hb dL_seen_72 rfl (lv_at hl 2 rfl) ?_
    refine lv_iconst (v := 0) hx hb dL_seen_73 (by decide) ?_
    obtain ⟨u, hP, hD, hS⟩ := hI
    refine lo_call (As := [.int 0]) (v := nI L) hB (lo_c_count l D yI yC yO h Ad σ u 0 _) (kw_seen_count hts) rfl hl.1 rfl (Nat.le_of_ble_eq_true rfl) dL_seen_74 (Nat.zero_le _) (Nat.zero_le _) ((lo_n0 σ).trans eL) rfl hP hD hS (fun u H locs hP hD hS => ?_)
    refine lv_imul hx hb dL_seen_77 ?_
    refine lt_top (y := nI (2 * L)) eM ?_
    exact lv_icmp_ge (tgt := 125) hx hb dL_seen_78 (by decide) (fun _ => kk H locs ls ⟨u, hP, hD, hS⟩ hl) (fun q => absurd (Int32.le_refl _) q)
  | succ n ih =>
    intro k hk H locs ls hI hl
    refine lv_iload_n hx hb dL_seen_70 rfl (lv_at hl 0 rfl) ?_
    refine lv_iconst (v := 2) hx hb dL_seen_71 (by decide) ?_
    refine lv_aload_n hx hb dL_seen_72 rfl (lv_at hl 2 rfl) ?_
    refine lv_iconst (v := 0) hx hb dL_seen_73 (by decide) ?_
    obtain ⟨u, hP, hD, hS⟩ := hI
    refine lo_call (As := [.int 0]) (v := nI L) hB (lo_c_count l D yI yC yO h Ad σ u 0 _) (kw_seen_count hts) rfl hl.1 rfl (Nat.le_of_ble_eq_true rfl) dL_seen_74 (Nat.zero_le _) (Nat.zero_le _) ((lo_n0 σ).trans eL) rfl hP hD hS (fun u H locs hP hD hS => ?_)
    refine lv_imul hx hb dL_seen_77 ?_
    refine lt_top (y := nI (2 * L)) eM ?_
    refine lv_icmp_ge (tgt := 125) hx hb dL_seen_78 (by decide) (fun q => absurd q (nI_ge (a := k) (b := 2 * L) (by omega) (by omega))) (fun _ => ?_)
    refine lv_ldc2 (v := 31) hx hb hown (hts (.constantLong RL 11 31) (by decide +kernel)) dL_seen_81 ?_
    refine lv_ldc2 (v := 31) hx hb hown (hts (.constantLong RL 11 31) (by decide +kernel)) dL_seen_84 ?_
    refine lv_ldc2 (v := 31) hx hb hown (hts (.constantLong RL 11 31) (by decide +kernel)) dL_seen_87 ?_
    refine lv_lload_n hx hb dL_seen_90 rfl (lv_at hl 1 rfl) ?_
    refine lv_lmul hx hb dL_seen_91 ?_
    refine lv_aload_n hx hb dL_seen_92 rfl (lv_at hl 2 rfl) ?_
    refine lv_iload_n hx hb dL_seen_93 rfl (lv_at hl 0 rfl) ?_
    refine lv_iconst (v := 0) hx hb dL_seen_94 (by decide) ?_
    refine lo_call (As := [.int (nI k), .int 0]) hB (lo_c_page l D yI yC yO h Ad σ u (nI k) 0 _) (kw_seen_page hts) rfl hl.1 rfl (Nat.le_of_ble_eq_true rfl) dL_seen_95 (Nat.zero_le _) (Nat.zero_le _) rfl rfl hP hD hS (fun u H locs hP hD hS => ?_)
    refine lv_i2l hx hb dL_seen_98 rfl ?_
    refine lv_ladd hx hb dL_seen_99 ?_
    refine lv_lmul hx hb dL_seen_100 ?_
    refine lv_aload_n hx hb dL_seen_101 rfl (lv_at hl 2 rfl) ?_
    refine lv_iload_n hx hb dL_seen_102 rfl (lv_at hl 0 rfl) ?_
    refine lv_iconst (v := 1) hx hb dL_seen_103 (by decide) ?_
    refine lo_call (As := [.int (nI k), .int 1]) hB (lo_c_page l D yI yC yO h Ad σ u (nI k) 1 _) (kw_seen_page hts) rfl hl.1 rfl (Nat.le_of_ble_eq_true rfl) dL_seen_104 (Nat.zero_le _) (Nat.zero_le _) rfl rfl hP hD hS (fun u H locs hP hD hS => ?_)
    refine lv_i2l hx hb dL_seen_107 rfl ?_
    refine lv_ladd hx hb dL_seen_108 ?_
    refine lv_lmul hx hb dL_seen_109 ?_
    refine lv_aload_n hx hb dL_seen_110 rfl (lv_at hl 2 rfl) ?_
    refine lv_iload_n hx hb dL_seen_111 rfl (lv_at hl 0 rfl) ?_
    refine lv_iconst (v := 2) hx hb dL_seen_112 (by decide) ?_
    refine lo_call (As := [.int (nI k), .int 2]) hB (lo_c_page l D yI yC yO h Ad σ u (nI k) 2 _) (kw_seen_page hts) rfl hl.1 rfl (Nat.le_of_ble_eq_true rfl) dL_seen_113 (Nat.zero_le _) (Nat.zero_le _) rfl rfl hP hD hS (fun u H locs hP hD hS => ?_)
    refine lv_i2l hx hb dL_seen_116 rfl ?_
    refine lv_ladd hx hb dL_seen_117 ?_
    refine lv_lstore_n (lv' := [(1, .long (lo_s3 σ b (k + 1))), (3, .int (nI k)), (0, .ref h)]) hx hb dL_seen_118 rfl hl (by decide) rfl (fun ls hl => ?_)
    refine lv_iinc (v := nI k + 1) (lv' := [(3, .int (nI k + 1)), (1, .long (lo_s3 σ b (k + 1))), (0, .ref h)]) hx hb dL_seen_119 hl (k := 1) rfl rfl (by decide) rfl (fun ls hl => ?_)
    refine lv_goto (tgt := 70) hx hb dL_seen_122 (by decide) ?_
    rw [nI_1] at hl
    exact ih (k + 1) (by omega) _ _ _ ⟨u, hP, hD, hS⟩ hl
set_option maxHeartbeats 4000000 in
set_option maxRecDepth 100000 in
theorem seen_l4 (hB : lo_B p s m args c cL_seen 4 wsL_seen D yI yC yO A) {h : Nat} {Ad : Nat → Nat → Nat} {σ : lo_T} {Z : Nat} (hZ : Z ≤ 80) (eZ : σ.2.2.2.1.1 2 = nI Z) {b : Int64} (kk : ∀ (H : Heap) (locs : List Loc) (ls : Array Slot), lo_I D yI yC yO A s.heap h Ad σ H locs → lv_has ls 4 [(3, .int (nI (4 * Z))), (1, .long (lo_s4 σ b (4 * Z))), (0, .ref h)] → W p l e lo_rm7 s m args below meth c H locs 0 0 Q (F0 m 174 ls [])) :
    ∀ (n k : Nat), k + n = 4 * Z → ∀ (H : Heap) (locs : List Loc) (ls : Array Slot), lo_I D yI yC yO A s.heap h Ad σ H locs → lv_has ls 4 [(3, .int (nI k)), (1, .long (lo_s4 σ b k)), (0, .ref h)] → W p l e lo_rm7 s m args below meth c H locs 0 0 Q (F0 m 127 ls []) := by
  have hx := hB.1.1
  have hb := hB.1.2.1
  have hown := hB.1.2.2.2.1
  have hts := hB.1.2.2.2.2
  have eM : (4 : Int32) * nI Z = nI (4 * Z) := pk_mul 4 Z
  intro n
  induction n with
  | zero =>
    intro k hk H locs ls hI hl
    obtain rfl : k = 4 * Z := by omega
    refine lv_iload_n hx hb dL_seen_127 rfl (lv_at hl 0 rfl) ?_
    refine lv_iconst (v := 4) hx hb dL_seen_128 (by decide) ?_
    refine lv_aload_n hx hb dL_seen_129 rfl (lv_at hl 2 rfl) ?_
    refine lv_iconst (v := 2) hx hb dL_seen_130 (by decide) ?_
    obtain ⟨u, hP, hD, hS⟩ := hI
    refine lo_call (As := [.int 2]) (v := nI Z) hB (lo_c_count l D yI yC yO h Ad σ u 2 _) (kw_seen_count hts) rfl hl.1 rfl (Nat.le_of_ble_eq_true rfl) dL_seen_131 (Nat.zero_le _) (Nat.zero_le _) ((lo_n2 σ).trans eZ) rfl hP hD hS (fun u H locs hP hD hS => ?_)
    refine lv_imul hx hb dL_seen_134 ?_
    refine lt_top (y := nI (4 * Z)) eM ?_
    exact lv_icmp_ge (tgt := 174) hx hb dL_seen_135 (by decide) (fun _ => kk H locs ls ⟨u, hP, hD, hS⟩ hl) (fun q => absurd (Int32.le_refl _) q)
  | succ n ih =>
    intro k hk H locs ls hI hl
    refine lv_iload_n hx hb dL_seen_127 rfl (lv_at hl 0 rfl) ?_
    refine lv_iconst (v := 4) hx hb dL_seen_128 (by decide) ?_
    refine lv_aload_n hx hb dL_seen_129 rfl (lv_at hl 2 rfl) ?_
    refine lv_iconst (v := 2) hx hb dL_seen_130 (by decide) ?_
    obtain ⟨u, hP, hD, hS⟩ := hI
    refine lo_call (As := [.int 2]) (v := nI Z) hB (lo_c_count l D yI yC yO h Ad σ u 2 _) (kw_seen_count hts) rfl hl.1 rfl (Nat.le_of_ble_eq_true rfl) dL_seen_131 (Nat.zero_le _) (Nat.zero_le _) ((lo_n2 σ).trans eZ) rfl hP hD hS (fun u H locs hP hD hS => ?_)
    refine lv_imul hx hb dL_seen_134 ?_
    refine lt_top (y := nI (4 * Z)) eM ?_
    refine lv_icmp_ge (tgt := 174) hx hb dL_seen_135 (by decide) (fun q => absurd q (nI_ge (a := k) (b := 4 * Z) (by omega) (by omega))) (fun _ => ?_)
    refine lv_ldc2 (v := 31) hx hb hown (hts (.constantLong RL 11 31) (by decide +kernel)) dL_seen_138 ?_
    refine lv_lload_n hx hb dL_seen_141 rfl (lv_at hl 1 rfl) ?_
    refine lv_lmul hx hb dL_seen_142 ?_
    refine lv_aload_n hx hb dL_seen_143 rfl (lv_at hl 2 rfl) ?_
    refine lv_iload_n hx hb dL_seen_144 rfl (lv_at hl 0 rfl) ?_
    refine lv_iconst (v := 4) hx hb dL_seen_145 (by decide) ?_
    refine lv_idiv hx hb dL_seen_146 (by decide) ?_
    have kk2 : ∀ x : Int32, (if nI k - nI k / 4 * 4 = 3 then 6 else nI k - nI k / 4 * 4) = x → W p l e lo_rm7 s m args below meth c H locs 0 0 Q (F0 m 162 ls [.int x, .int (nI k / 4), .ref h, .long (31 * lo_s4 σ b k)]) := by
      intro x hxx
      subst hxx
      refine lo_call (As := [.int (nI k / 4), .int (if nI k - nI k / 4 * 4 = 3 then 6 else nI k - nI k / 4 * 4)]) hB (lo_c_picture l D yI yC yO h Ad σ u (nI k / 4) (if nI k - nI k / 4 * 4 = 3 then 6 else nI k - nI k / 4 * 4) _) (kw_seen_picture hts) rfl hl.1 rfl (Nat.le_of_ble_eq_true rfl) dL_seen_162 (Nat.zero_le _) (Nat.zero_le _) rfl rfl hP hD hS (fun u H locs hP hD hS => ?_)
      refine lv_i2l hx hb dL_seen_165 rfl ?_
      refine lv_ladd hx hb dL_seen_166 ?_
      refine lv_lstore_n (lv' := [(1, .long (lo_s4 σ b (k + 1))), (3, .int (nI k)), (0, .ref h)]) hx hb dL_seen_167 rfl hl (by decide) rfl (fun ls hl => ?_)
      refine lv_iinc (v := nI k + 1) (lv' := [(3, .int (nI k + 1)), (1, .long (lo_s4 σ b (k + 1))), (0, .ref h)]) hx hb dL_seen_168 hl (k := 1) rfl rfl (by decide) rfl (fun ls hl => ?_)
      refine lv_goto (tgt := 127) hx hb dL_seen_171 (by decide) ?_
      rw [nI_1] at hl
      exact ih (k + 1) (by omega) _ _ _ ⟨u, hP, hD, hS⟩ hl
    refine lv_iload_n hx hb dL_seen_147 rfl (lv_at hl 0 rfl) ?_
    refine lv_iconst (v := 4) hx hb dL_seen_148 (by decide) ?_
    refine lv_irem hx hb dL_seen_149 (by decide) ?_
    refine lv_iconst (v := 3) hx hb dL_seen_150 (by decide) ?_
    refine lv_icmp_ne (tgt := 159) hx hb dL_seen_151 (by decide) (fun q => ?_) (fun q => ?_)
    · refine lv_iload_n hx hb dL_seen_159 rfl (lv_at hl 0 rfl) ?_
      refine lv_iconst (v := 4) hx hb dL_seen_160 (by decide) ?_
      refine lv_irem hx hb dL_seen_161 (by decide) ?_
      exact kk2 _ (if_neg q)
    · refine lv_bipush (v := 6) hx hb dL_seen_154 (by decide) ?_
      refine lv_goto (tgt := 162) hx hb dL_seen_156 (by decide) ?_
      exact kk2 _ (if_pos q)
end LOE
set_option maxHeartbeats 4000000 in
set_option maxRecDepth 100000 in
theorem lo_c_seen (l : Launch) (D : va_G) (yI yC yO : ClassId) (h : Nat) (Ad : Nat → Nat → Nat) (σ : lo_T) (u : lo_U) (sz : Nat) (hG : lo_G σ) : Met l yL_seen wsL_seen lo_rm7 (va_Pc [.ref h] (lo_M D yI yC yO (lo_O yI yC yO h Ad σ u) sz)) (lo_Ql D (lo_seen σ) (lo_O yI yC yO h Ad σ) (va_A (lo_O yI yC yO h Ad σ u) sz)) 0 0 (va_A (lo_O yI yC yO h Ad σ u) sz) := by
  refine Met.ofW (cc := cL_seen) (maxL := 4) (ret := (some .long)) (by decide) rfl ?_
  intro p e s m args below meth c s₁ B0 hml hv
  obtain ⟨rfl, hM⟩ := hv
  have hB : lo_B p s m _ c cL_seen 4 wsL_seen D yI yC yO (va_A (lo_O yI yC yO h Ad σ u) sz) := lo_B.of B0.exec B0.bytes hml (findClass_of_methodNamed B0.named) (atoms_spec (ws := wsL_seen) B0.pre) hM
  obtain ⟨hP, hD, hS⟩ := hM.S
  have hx := hB.1.1
  have hb := hB.1.2.1
  have hown := hB.1.2.2.2.1
  have hts := hB.1.2.2.2.2
  have hret := B0.returns
  have hlocks := B0.notSynchronized
  obtain ⟨L, Z, h1, hL, hZ, eL, eZ⟩ := hG
  have nL : (σ.2.2.2.1.1 0).toNatClampNeg = L := by rw [eL]; exact nI_clamp (by omega)
  have nZ : (σ.2.2.2.1.1 2).toNatClampNeg = Z := by rw [eZ]; exact nI_clamp (by omega)
  have hl := lv_entry ([.ref h]) (n := 4) (Nat.le_of_ble_eq_true rfl)
  rw [lg_entry_eq]
  generalize (lg_sl ([.ref h]) ++ List.replicate (4 - (lg_sl ([.ref h])).length) Slot.unset).toArray = ls at hl ⊢
  have hl : lv_has ls 4 [(0, .ref h)] := hl
  generalize hAe : va_A (lo_O yI yC yO h Ad σ u) sz = A at hB hD hS ⊢
  refine lv_ldc2 (v := 73) hx hb hown (hts (.constantLong RL 9 73) (by decide +kernel)) dL_seen_0 ?_
  refine lv_lstore_n (lv' := [(1, .long 73), (0, .ref h)]) hx hb dL_seen_3 rfl hl (by decide) rfl (fun ls hl => ?_)
  refine lv_iconst (v := 0) hx hb dL_seen_4 (by decide) ?_
  refine lv_istore_n (lv' := [(3, .int 0), (1, .long 73), (0, .ref h)]) hx hb dL_seen_5 rfl hl (by decide) rfl (fun ls hl => ?_)
  refine seen_l1 hB (σ := σ) (h := h) (Ad := Ad) (fun H locs ls hI hl => ?_) 15 0 (by decide) _ _ _ ⟨u, hP, hD, hS⟩ hl
  refine lv_iconst (v := 0) hx hb dL_seen_31 (by decide) ?_
  refine lv_istore_n (lv' := [(3, .int 0), (1, .long (lo_s1 σ 15)), (0, .ref h)]) hx hb dL_seen_32 rfl hl (by decide) rfl (fun ls hl => ?_)
  refine seen_l2 hB (σ := σ) (h := h) (Ad := Ad) hL eL (b := lo_s1 σ 15) (fun H locs ls hI hl => ?_) (3 * L) 0 (by omega) _ _ _ hI hl
  refine lv_iconst (v := 0) hx hb dL_seen_68 (by decide) ?_
  refine lv_istore_n (lv' := [(3, .int 0), (1, .long (lo_s2 σ (lo_s1 σ 15) (3 * L))), (0, .ref h)]) hx hb dL_seen_69 rfl hl (by decide) rfl (fun ls hl => ?_)
  refine seen_l3 hB (σ := σ) (h := h) (Ad := Ad) hL eL (b := lo_s2 σ (lo_s1 σ 15) (3 * L)) (fun H locs ls hI hl => ?_) (2 * L) 0 (by omega) _ _ _ hI hl
  refine lv_iconst (v := 0) hx hb dL_seen_125 (by decide) ?_
  refine lv_istore_n (lv' := [(3, .int 0), (1, .long (lo_s3 σ (lo_s2 σ (lo_s1 σ 15) (3 * L)) (2 * L))), (0, .ref h)]) hx hb dL_seen_126 rfl hl (by decide) rfl (fun ls hl => ?_)
  refine seen_l4 hB (σ := σ) (h := h) (Ad := Ad) hZ eZ (b := lo_s3 σ (lo_s2 σ (lo_s1 σ 15) (3 * L)) (2 * L)) (fun H locs ls hI hl => ?_) (4 * Z) 0 (by omega) _ _ _ hI hl
  obtain ⟨u, hP, hD, hS⟩ := hI
  refine lv_ldc2 (v := 31) hx hb hown (hts (.constantLong RL 11 31) (by decide +kernel)) dL_seen_174 ?_
  refine lv_lload_n hx hb dL_seen_177 rfl (lv_at hl 1 rfl) ?_
  refine lv_lmul hx hb dL_seen_178 ?_
  refine lv_aload_n hx hb dL_seen_179 rfl (lv_at hl 2 rfl) ?_
  refine lo_call (As := []) hB (lo_c_best l D yI yC yO h Ad σ u _) (kw_seen_best hts) rfl hl.1 rfl (Nat.le_of_ble_eq_true rfl) dL_seen_180 (Nat.zero_le _) (Nat.zero_le _) rfl rfl hP hD hS (fun u H locs hP hD hS => ?_)
  refine lv_i2l hx hb dL_seen_183 rfl ?_
  refine lv_ladd hx hb dL_seen_184 ?_
  refine W.lret hx hb hret (fun t ht hW => ⟨⟨_, u, rfl, ?_, by rw [ht]; exact hP, hD⟩, hS.F ht⟩) hS.2.2 dL_seen_185
  unfold lo_seen
  rw [nL, nZ]
