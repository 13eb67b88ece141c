abbrev lo_rm_four : Room := { frames := 9, cells := 143, slots := 3511, locals := 270 }
theorem kw_four_undo {args : Array Value} {s : State} (hts : ∀ w ∈ wsL_four, w.before args s = true) : CallW lo_rm_four s args RL RX7 77 yX7_undo cX7_undo 1 (some .int) wsX7_undo ({ frames := 5, cells := 0, slots := 0, locals := 150 }) 0 0 0 := cwV 0 hts gL_four_X7_undo rfl rfl rfl (by decide +kernel) ⟨Nat.le_of_ble_eq_true rfl, Nat.le_of_ble_eq_true rfl⟩
theorem kw_four_restore {args : Array Value} {s : State} (hts : ∀ w ∈ wsL_four, w.before args s = true) : CallW lo_rm_four s args RL RX7 80 yX7_restore cX7_restore 1 (some .int) wsX7_restore ({ frames := 5, cells := 0, slots := 0, locals := 150 }) 0 0 0 := cwV 0 hts gL_four_X7_restore rfl rfl rfl (by decide +kernel) ⟨Nat.le_of_ble_eq_true rfl, Nat.le_of_ble_eq_true rfl⟩
theorem kw_four_shoot {args : Array Value} {s : State} (hts : ∀ w ∈ wsL_four, w.before args s = true) : CallW lo_rm_four s args RL RX7 83 yX7_shoot cX7_shoot 1 (some .int) wsX7_shoot ({ frames := 5, cells := 0, slots := 0, locals := 150 }) 0 0 0 := cwV 0 hts gL_four_X7_shoot rfl rfl rfl (by decide +kernel) ⟨Nat.le_of_ble_eq_true rfl, Nat.le_of_ble_eq_true rfl⟩
theorem kw_four_scan {args : Array Value} {s : State} (hts : ∀ w ∈ wsL_four, w.before args s = true) : CallW lo_rm_four s args RL RX7 41 yX7_scan cX7_scan 3 (some .int) wsX7_scan ({ frames := 6, cells := 0, slots := 0, locals := 180 }) 0 0 1 := cwV 1 hts gL_four_X7_scan rfl rfl rfl (by decide +kernel) ⟨Nat.le_of_ble_eq_true rfl, Nat.le_of_ble_eq_true rfl⟩
theorem kw_four_turnBack {args : Array Value} {s : State} (hts : ∀ w ∈ wsL_four, w.before args s = true) : CallW lo_rm_four s args RL RX7 86 yX7_turnBack cX7_turnBack 1 (some .int) wsX7_turnBack ({ frames := 5, cells := 0, slots := 0, locals := 150 }) 0 0 0 := cwV 0 hts gL_four_X7_turnBack rfl rfl rfl (by decide +kernel) ⟨Nat.le_of_ble_eq_true rfl, Nat.le_of_ble_eq_true rfl⟩
theorem kw_four_best {args : Array Value} {s : State} (hts : ∀ w ∈ wsL_four, w.before args s = true) : CallW lo_rm_four s args RL RX7 29 yX7_best cX7_best 2 (some .int) wsX7_best ({ frames := 3, cells := 0, slots := 0, locals := 90 }) 0 0 0 := cwV 0 hts gL_four_X7_best rfl rfl rfl (by decide +kernel) ⟨Nat.le_of_ble_eq_true rfl, Nat.le_of_ble_eq_true rfl⟩
theorem kw_four_lacking {args : Array Value} {s : State} (hts : ∀ w ∈ wsL_four, w.before args s = true) : CallW lo_rm_four s args RL RX7 59 yX7_lacking cX7_lacking 2 (some .int) wsX7_lacking ({ frames := 5, cells := 0, slots := 0, locals := 150 }) 0 0 1 := cwV 1 hts gL_four_X7_lacking rfl rfl rfl (by decide +kernel) ⟨Nat.le_of_ble_eq_true rfl, Nat.le_of_ble_eq_true rfl⟩
theorem kw_four_open {args : Array Value} {s : State} (hts : ∀ w ∈ wsL_four, w.before args s = true) : CallW lo_rm_four s args RL RX7 53 yX7_open cX7_open 2 (some .int) wsX7_open ({ frames := 2, cells := 0, slots := 0, locals := 60 }) 0 0 1 := cwV 1 hts gL_four_X7_open rfl rfl rfl (by decide +kernel) ⟨Nat.le_of_ble_eq_true rfl, Nat.le_of_ble_eq_true rfl⟩
theorem kw_four_types {args : Array Value} {s : State} (hts : ∀ w ∈ wsL_four, w.before args s = true) : CallB lo_rm_four s args RL 91 yL_types cL_types 6 (some .boolean) wsL_types lo_rm_types 0 0 2 ∧ (Cond.static yL_types).before args s = true := cwS 2 hts gL_four_L_types rfl rfl rfl (by decide +kernel) ⟨Nat.le_of_ble_eq_true rfl, Nat.le_of_ble_eq_true rfl⟩
theorem kw_four_takeBook {args : Array Value} {s : State} (hts : ∀ w ∈ wsL_four, w.before args s = true) : CallW lo_rm_four s args RL RX7 97 yX7_takeBook cX7_takeBook 2 (some .int) wsX7_takeBook ({ frames := 5, cells := 0, slots := 0, locals := 150 }) 0 0 0 := cwV 0 hts gL_four_X7_takeBook rfl rfl rfl (by decide +kernel) ⟨Nat.le_of_ble_eq_true rfl, Nat.le_of_ble_eq_true rfl⟩
theorem kw_four_leaf {args : Array Value} {s : State} (hts : ∀ w ∈ wsL_four, w.before args s = true) : CallW lo_rm_four s args RL RX7 19 yX7_leaf cX7_leaf 3 (some .int) wsX7_leaf ({ frames := 2, cells := 0, slots := 0, locals := 60 }) 0 0 2 := cwV 2 hts gL_four_X7_leaf rfl rfl rfl (by decide +kernel) ⟨Nat.le_of_ble_eq_true rfl, Nat.le_of_ble_eq_true rfl⟩
theorem kw_four_page {args : Array Value} {s : State} (hts : ∀ w ∈ wsL_four, w.before args s = true) : CallW lo_rm_four s args RL RX7 23 yX7_page cX7_page 3 (some .int) wsX7_page ({ frames := 5, cells := 0, slots := 0, locals := 150 }) 0 0 2 := cwV 2 hts gL_four_X7_page rfl rfl rfl (by decide +kernel) ⟨Nat.le_of_ble_eq_true rfl, Nat.le_of_ble_eq_true rfl⟩
theorem kw_four_would {args : Array Value} {s : State} (hts : ∀ w ∈ wsL_four, w.before args s = true) : CallW lo_rm_four s args RL RX7 56 yX7_would cX7_would 2 (some .int) wsX7_would ({ frames := 3, cells := 0, slots := 0, locals := 90 }) 0 0 1 := cwV 1 hts gL_four_X7_would rfl rfl rfl (by decide +kernel) ⟨Nat.le_of_ble_eq_true rfl, Nat.le_of_ble_eq_true rfl⟩
theorem kw_four_picture {args : Array Value} {s : State} (hts : ∀ w ∈ wsL_four, w.before args s = true) : CallW lo_rm_four s args RL RX7 26 yX7_picture cX7_picture 4 (some .int) wsX7_picture ({ frames := 5, cells := 0, slots := 0, locals := 150 }) 0 0 2 := cwV 2 hts gL_four_X7_picture rfl rfl rfl (by decide +kernel) ⟨Nat.le_of_ble_eq_true rfl, Nat.le_of_ble_eq_true rfl⟩
theorem kw_four_refused {args : Array Value} {s : State} (hts : ∀ w ∈ wsL_four, w.before args s = true) : CallB lo_rm_four s args RL 100 yL_refused cL_refused 4 (some .boolean) wsL_refused lo_rm_refused 0 0 1 ∧ (Cond.static yL_refused).before args s = true := cwS 1 hts gL_four_L_refused rfl rfl rfl (by decide +kernel) ⟨Nat.le_of_ble_eq_true rfl, Nat.le_of_ble_eq_true rfl⟩
theorem kw_four_turn {args : Array Value} {s : State} (hts : ∀ w ∈ wsL_four, w.before args s = true) : CallW lo_rm_four s args RL RX7 104 yX7_turn cX7_turn 1 (some .int) wsX7_turn ({ frames := 5, cells := 0, slots := 0, locals := 150 }) 0 0 0 := cwV 0 hts gL_four_X7_turn rfl rfl rfl (by decide +kernel) ⟨Nat.le_of_ble_eq_true rfl, Nat.le_of_ble_eq_true rfl⟩
theorem kw_four_count {args : Array Value} {s : State} (hts : ∀ w ∈ wsL_four, w.before args s = true) : CallW lo_rm_four s args RL RX7 13 yX7_count cX7_count 2 (some .int) wsX7_count ({ frames := 6, cells := 0, slots := 0, locals := 180 }) 0 0 1 := cwV 1 hts gL_four_X7_count rfl rfl rfl (by decide +kernel) ⟨Nat.le_of_ble_eq_true rfl, Nat.le_of_ble_eq_true rfl⟩
theorem kw_four_throwAway {args : Array Value} {s : State} (hts : ∀ w ∈ wsL_four, w.before args s = true) : CallW lo_rm_four s args RL RX7 44 yX7_throwAway cX7_throwAway 2 (some .int) wsX7_throwAway ({ frames := 5, cells := 0, slots := 0, locals := 150 }) 0 0 1 := cwV 1 hts gL_four_X7_throwAway rfl rfl rfl (by decide +kernel) ⟨Nat.le_of_ble_eq_true rfl, Nat.le_of_ble_eq_true rfl⟩
theorem kw_four_print {args : Array Value} {s : State} (hts : ∀ w ∈ wsL_four, w.before args s = true) : CallW lo_rm_four s args RL RX7 38 yX7_print cX7_print 4 (some .int) wsX7_print ({ frames := 5, cells := 0, slots := 0, locals := 150 }) 0 0 2 := cwV 2 hts gL_four_X7_print rfl rfl rfl (by decide +kernel) ⟨Nat.le_of_ble_eq_true rfl, Nat.le_of_ble_eq_true rfl⟩
theorem kw_four_set {args : Array Value} {s : State} (hts : ∀ w ∈ wsL_four, w.before args s = true) : CallW lo_rm_four s args RL RX7 50 yX7_set cX7_set 4 (some .int) wsX7_set ({ frames := 5, cells := 0, slots := 0, locals := 150 }) 0 0 2 := cwV 2 hts gL_four_X7_set rfl rfl rfl (by decide +kernel) ⟨Nat.le_of_ble_eq_true rfl, Nat.le_of_ble_eq_true rfl⟩
theorem kw_four_keep {args : Array Value} {s : State} (hts : ∀ w ∈ wsL_four, w.before args s = true) : CallW lo_rm_four s args RL RX7 107 yX7_keep cX7_keep 1 (some .int) wsX7_keep ({ frames := 4, cells := 0, slots := 0, locals := 120 }) 0 0 0 := cwV 0 hts gL_four_X7_keep rfl rfl rfl (by decide +kernel) ⟨Nat.le_of_ble_eq_true rfl, Nat.le_of_ble_eq_true rfl⟩
theorem ix_four : ∀ w ∈ wsX70, w ∈ wsL_four := by decide +kernel
section LOH
set_option maxHeartbeats 4000000 in
set_option maxRecDepth 100000 in
theorem four_1 {p : Program} {l : Launch} {e : Env} {s : State} {m : MethodId} {args : Array Value} {below : List Frame} {meth : Method} {c : Code} {Q : State → Prop} {A : Nat → Prop} {D : va_G} {yI yC yO : ClassId} (hB : lo_B p s m args c cL_four 1 wsL_four D yI yC yO A) {h : Nat} {Ad : Nat → Nat → Nat} (kk : ∀ (H : Heap) (locs : List Loc) (ls : Array Slot), lo_I D yI yC yO A s.heap h Ad f4_s8 H locs → lv_has ls 1 [(0, .ref h)] → W p l e lo_rm_four s m args below meth c H locs 143 3511 Q (F0 m 122 ls [])) :
    ∀ (H : Heap) (locs : List Loc) (ls : Array Slot), lo_I D yI yC yO A s.heap h Ad lo_t0 H locs → lv_has ls 1 [(0, .ref h)] → W p l e lo_rm_four s m args below meth c H locs 143 3511 Q (F0 m 8 ls []) := by
  intro H locs ls hI hl
  obtain ⟨u, hP, hD, hS⟩ := hI
  have hx := hB.1.1
  have hb := hB.1.2.1
  have hown := hB.1.2.2.2.1
  have hts := hB.1.2.2.2.2
  refine lv_aload_n hx hb dL_four_8 rfl (lv_at hl 0 rfl) ?_
  refine lo_call (As := []) (v := (-5)) (σ' := f4_s1) hB (lo_c_undo l D yI yC yO h Ad lo_t0 u _ f4_z1) (kw_four_undo hts) rfl hl.1 rfl (Nat.le_of_ble_eq_true rfl) dL_four_9 (Nat.le_of_ble_eq_true rfl) (Nat.le_of_ble_eq_true rfl) f4_a1 rfl hP hD hS (fun u H locs hP hD hS => ?_)
  refine lv_bipush (v := (-5)) hx hb dL_four_12 (by decide) ?_
  refine lv_icmp_ne (tgt := 303) hx hb dL_four_14 (by decide) (fun q => absurd rfl q) (fun _ => ?_)
  refine lv_aload_n hx hb dL_four_17 rfl (lv_at hl 0 rfl) ?_
  refine lo_call (As := []) (v := (-5)) (σ' := f4_s2) hB (lo_c_restore l D yI yC yO h Ad f4_s1 u _ f4_z2) (kw_four_restore hts) rfl hl.1 rfl (Nat.le_of_ble_eq_true rfl) dL_four_18 (Nat.le_of_ble_eq_true rfl) (Nat.le_of_ble_eq_true rfl) f4_a2 rfl hP hD hS (fun u H locs hP hD hS => ?_)
  refine lv_bipush (v := (-5)) hx hb dL_four_21 (by decide) ?_
  refine lv_icmp_ne (tgt := 303) hx hb dL_four_23 (by decide) (fun q => absurd rfl q) (fun _ => ?_)
  refine lv_aload_n hx hb dL_four_26 rfl (lv_at hl 0 rfl) ?_
  refine lo_call (As := []) (v := (-4)) (σ' := f4_s3) hB (lo_c_shoot l D yI yC yO h Ad f4_s2 u _ f4_z3) (kw_four_shoot hts) rfl hl.1 rfl (Nat.le_of_ble_eq_true rfl) dL_four_27 (Nat.le_of_ble_eq_true rfl) (Nat.le_of_ble_eq_true rfl) f4_a3 rfl hP hD hS (fun u H locs hP hD hS => ?_)
  refine lv_bipush (v := (-4)) hx hb dL_four_30 (by decide) ?_
  refine lv_icmp_ne (tgt := 303) hx hb dL_four_32 (by decide) (fun q => absurd rfl q) (fun _ => ?_)
  refine lv_aload_n hx hb dL_four_35 rfl (lv_at hl 0 rfl) ?_
  refine lv_iconst (v := 1) hx hb dL_four_36 (by decide) ?_
  refine lo_call (As := [.int 1]) (v := (-4)) (σ' := f4_s4) hB (lo_c_scan l D yI yC yO h Ad f4_s3 u 1 _ f4_z4) (kw_four_scan hts) rfl hl.1 rfl (Nat.le_of_ble_eq_true rfl) dL_four_37 (Nat.le_of_ble_eq_true rfl) (Nat.le_of_ble_eq_true rfl) f4_a4 rfl hP hD hS (fun u H locs hP hD hS => ?_)
  refine lv_bipush (v := (-4)) hx hb dL_four_40 (by decide) ?_
  refine lv_icmp_ne (tgt := 303) hx hb dL_four_42 (by decide) (fun q => absurd rfl q) (fun _ => ?_)
  refine lv_aload_n hx hb dL_four_45 rfl (lv_at hl 0 rfl) ?_
  refine lo_call (As := []) (v := (-4)) (σ' := f4_s5) hB (lo_c_turnBack l D yI yC yO h Ad f4_s4 u _ f4_z5) (kw_four_turnBack hts) rfl hl.1 rfl (Nat.le_of_ble_eq_true rfl) dL_four_46 (Nat.le_of_ble_eq_true rfl) (Nat.le_of_ble_eq_true rfl) f4_a5 rfl hP hD hS (fun u H locs hP hD hS => ?_)
  refine lv_bipush (v := (-4)) hx hb dL_four_49 (by decide) ?_
  refine lv_icmp_ne (tgt := 303) hx hb dL_four_51 (by decide) (fun q => absurd rfl q) (fun _ => ?_)
  refine lv_aload_n hx hb dL_four_54 rfl (lv_at hl 0 rfl) ?_
  refine lo_call (As := []) (v := (-4)) (σ' := f4_s5) hB (lo_c_best l D yI yC yO h Ad f4_s5 u _) (kw_four_best hts) rfl hl.1 rfl (Nat.le_of_ble_eq_true rfl) dL_four_55 (Nat.le_of_ble_eq_true rfl) (Nat.le_of_ble_eq_true rfl) f4_a6 rfl hP hD hS (fun u H locs hP hD hS => ?_)
  refine lv_bipush (v := (-4)) hx hb dL_four_58 (by decide) ?_
  refine lv_icmp_ne (tgt := 303) hx hb dL_four_60 (by decide) (fun q => absurd rfl q) (fun _ => ?_)
  refine lv_aload_n hx hb dL_four_63 rfl (lv_at hl 0 rfl) ?_
  refine lv_iconst (v := 0) hx hb dL_four_64 (by decide) ?_
  refine lo_call (As := [.int 0]) (v := (-5)) (σ' := f4_s5) hB (lo_c_lacking l D yI yC yO h Ad f4_s5 u 0 _) (kw_four_lacking hts) rfl hl.1 rfl (Nat.le_of_ble_eq_true rfl) dL_four_65 (Nat.le_of_ble_eq_true rfl) (Nat.le_of_ble_eq_true rfl) f4_a7 rfl hP hD hS (fun u H locs hP hD hS => ?_)
  refine lv_bipush (v := (-5)) hx hb dL_four_68 (by decide) ?_
  refine lv_icmp_ne (tgt := 303) hx hb dL_four_70 (by decide) (fun q => absurd rfl q) (fun _ => ?_)
  refine lv_aload_n hx hb dL_four_73 rfl (lv_at hl 0 rfl) ?_
  refine lv_iconst (v := 1) hx hb dL_four_74 (by decide) ?_
  refine lo_call (As := [.int 1]) (v := (-5)) (σ' := f4_s5) hB (lo_c_open l D yI yC yO h Ad f4_s5 u 1 _) (kw_four_open hts) rfl hl.1 rfl (Nat.le_of_ble_eq_true rfl) dL_four_75 (Nat.le_of_ble_eq_true rfl) (Nat.le_of_ble_eq_true rfl) f4_a8 rfl hP hD hS (fun u H locs hP hD hS => ?_)
  refine lv_bipush (v := (-5)) hx hb dL_four_78 (by decide) ?_
  refine lv_icmp_ne (tgt := 303) hx hb dL_four_80 (by decide) (fun q => absurd rfl q) (fun _ => ?_)
  refine lv_aload_n hx hb dL_four_83 rfl (lv_at hl 0 rfl) ?_
  refine lv_ldc2 (v := 3707369780239152243) hx hb hown (hts (.constantLong RL 89 3707369780239152243) (by decide +kernel)) dL_four_84 ?_
  refine lo_calls (As := [.ref h, .long 3707369780239152243]) (v := 1) (σ' := f4_s6) hB (lo_c_types l D yI yC yO h Ad f4_s5 u 3707369780239152243 _) (kw_four_types hts) rfl hl.1 rfl (Nat.le_of_ble_eq_true rfl) dL_four_87 (Nat.le_of_ble_eq_true rfl) (Nat.le_of_ble_eq_true rfl) f4_a9 rfl hP hD hS (fun u H locs hP hD hS => ?_)
  refine lv_if_eq (tgt := 303) hx hb dL_four_90 (by decide) (fun q => absurd q (by decide)) (fun _ => ?_)
  refine lv_aload_n hx hb dL_four_93 rfl (lv_at hl 0 rfl) ?_
  refine lv_ldc2 (v := 228340805921) hx hb hown (hts (.constantLong RL 95 228340805921) (by decide +kernel)) dL_four_94 ?_
  refine lo_calls (As := [.ref h, .long 228340805921]) (v := 1) (σ' := f4_s7) hB (lo_c_types l D yI yC yO h Ad f4_s6 u 228340805921 _) (kw_four_types hts) rfl hl.1 rfl (Nat.le_of_ble_eq_true rfl) dL_four_97 (Nat.le_of_ble_eq_true rfl) (Nat.le_of_ble_eq_true rfl) f4_a10 rfl hP hD hS (fun u H locs hP hD hS => ?_)
  refine lv_if_eq (tgt := 303) hx hb dL_four_100 (by decide) (fun q => absurd q (by decide)) (fun _ => ?_)
  refine lv_aload_n hx hb dL_four_103 rfl (lv_at hl 0 rfl) ?_
  refine lo_call (As := []) (v := 4) (σ' := f4_s8) hB (lo_c_takeBook l D yI yC yO h Ad f4_s7 u _ f4_z11) (kw_four_takeBook hts) rfl hl.1 rfl (Nat.le_of_ble_eq_true rfl) dL_four_104 (Nat.le_of_ble_eq_true rfl) (Nat.le_of_ble_eq_true rfl) f4_a11 rfl hP hD hS (fun u H locs hP hD hS => ?_)
  refine lv_iconst (v := 4) hx hb dL_four_107 (by decide) ?_
  refine lv_icmp_ne (tgt := 303) hx hb dL_four_108 (by decide) (fun q => absurd rfl q) (fun _ => ?_)
  refine lv_aload_n hx hb dL_four_111 rfl (lv_at hl 0 rfl) ?_
  refine lv_iconst (v := 0) hx hb dL_four_112 (by decide) ?_
  refine lv_iconst (v := 1) hx hb dL_four_113 (by decide) ?_
  refine lo_call (As := [.int 0, .int 1]) (v := 9) (σ' := f4_s8) hB (lo_c_leaf l D yI yC yO h Ad f4_s8 u 0 1 _) (kw_four_leaf hts) rfl hl.1 rfl (Nat.le_of_ble_eq_true rfl) dL_four_114 (Nat.le_of_ble_eq_true rfl) (Nat.le_of_ble_eq_true rfl) f4_a12 rfl hP hD hS (fun u H locs hP hD hS => ?_)
  refine lv_bipush (v := 9) hx hb dL_four_117 (by decide) ?_
  refine lv_icmp_ne (tgt := 303) hx hb dL_four_119 (by decide) (fun q => absurd rfl q) (fun _ => ?_)
  exact kk _ _ _ ⟨u, hP, hD, hS⟩ hl

set_option maxHeartbeats 4000000 in
set_option maxRecDepth 100000 in
theorem four_2 {p : Program} {l : Launch} {e : Env} {s : State} {m : MethodId} {args : Array Value} {below : List Frame} {meth : Method} {c : Code} {Q : State → Prop} {A : Nat → Prop} {D : va_G} {yI yC yO : ClassId} (hB : lo_B p s m args c cL_four 1 wsL_four D yI yC yO A) {h : Nat} {Ad : Nat → Nat → Nat} (kk : ∀ (H : Heap) (locs : List Loc) (ls : Array Slot), lo_I D yI yC yO A s.heap h Ad f4_s8 H locs → lv_has ls 1 [(0, .ref h)] → W p l e lo_rm_four s m args below meth c H locs 143 3511 Q (F0 m 243 ls [])) :
    ∀ (H : Heap) (locs : List Loc) (ls : Array Slot), lo_I D yI yC yO A s.heap h Ad f4_s8 H locs → lv_has ls 1 [(0, .ref h)] → W p l e lo_rm_four s m args below meth c H locs 143 3511 Q (F0 m 122 ls []) := by
  intro H locs ls hI hl
  obtain ⟨u, hP, hD, hS⟩ := hI
  have hx := hB.1.1
  have hb := hB.1.2.1
  have hown := hB.1.2.2.2.1
  have hts := hB.1.2.2.2.2
  refine lv_aload_n hx hb dL_four_122 rfl (lv_at hl 0 rfl) ?_
  refine lv_iconst (v := 2) hx hb dL_four_123 (by decide) ?_
  refine lv_iconst (v := 0) hx hb dL_four_124 (by decide) ?_
  refine lo_call (As := [.int 2, .int 0]) (v := 4) (σ' := f4_s8) hB (lo_c_leaf l D yI yC yO h Ad f4_s8 u 2 0 _) (kw_four_leaf hts) rfl hl.1 rfl (Nat.le_of_ble_eq_true rfl) dL_four_125 (Nat.le_of_ble_eq_true rfl) (Nat.le_of_ble_eq_true rfl) f4_a13 rfl hP hD hS (fun u H locs hP hD hS => ?_)
  refine lv_iconst (v := 4) hx hb dL_four_128 (by decide) ?_
  refine lv_icmp_ne (tgt := 303) hx hb dL_four_129 (by decide) (fun q => absurd rfl q) (fun _ => ?_)
  refine lv_aload_n hx hb dL_four_132 rfl (lv_at hl 0 rfl) ?_
  refine lv_iconst (v := 4) hx hb dL_four_133 (by decide) ?_
  refine lv_iconst (v := 0) hx hb dL_four_134 (by decide) ?_
  refine lo_call (As := [.int 4, .int 0]) (v := (-5)) (σ' := f4_s8) hB (lo_c_page l D yI yC yO h Ad f4_s8 u 4 0 _) (kw_four_page hts) rfl hl.1 rfl (Nat.le_of_ble_eq_true rfl) dL_four_135 (Nat.le_of_ble_eq_true rfl) (Nat.le_of_ble_eq_true rfl) f4_a14 rfl hP hD hS (fun u H locs hP hD hS => ?_)
  refine lv_bipush (v := (-5)) hx hb dL_four_138 (by decide) ?_
  refine lv_icmp_ne (tgt := 303) hx hb dL_four_140 (by decide) (fun q => absurd rfl q) (fun _ => ?_)
  refine lv_aload_n hx hb dL_four_143 rfl (lv_at hl 0 rfl) ?_
  refine lv_bipush (v := 6) hx hb dL_four_144 (by decide) ?_
  refine lv_iconst (v := 0) hx hb dL_four_146 (by decide) ?_
  refine lo_call (As := [.int 6, .int 0]) (v := 9) (σ' := f4_s8) hB (lo_c_page l D yI yC yO h Ad f4_s8 u 6 0 _) (kw_four_page hts) rfl hl.1 rfl (Nat.le_of_ble_eq_true rfl) dL_four_147 (Nat.le_of_ble_eq_true rfl) (Nat.le_of_ble_eq_true rfl) f4_a15 rfl hP hD hS (fun u H locs hP hD hS => ?_)
  refine lv_bipush (v := 9) hx hb dL_four_150 (by decide) ?_
  refine lv_icmp_ne (tgt := 303) hx hb dL_four_152 (by decide) (fun q => absurd rfl q) (fun _ => ?_)
  refine lv_aload_n hx hb dL_four_155 rfl (lv_at hl 0 rfl) ?_
  refine lv_bipush (v := 7) hx hb dL_four_156 (by decide) ?_
  refine lv_iconst (v := 0) hx hb dL_four_158 (by decide) ?_
  refine lo_call (As := [.int 7, .int 0]) (v := 10) (σ' := f4_s8) hB (lo_c_page l D yI yC yO h Ad f4_s8 u 7 0 _) (kw_four_page hts) rfl hl.1 rfl (Nat.le_of_ble_eq_true rfl) dL_four_159 (Nat.le_of_ble_eq_true rfl) (Nat.le_of_ble_eq_true rfl) f4_a16 rfl hP hD hS (fun u H locs hP hD hS => ?_)
  refine lv_bipush (v := 10) hx hb dL_four_162 (by decide) ?_
  refine lv_icmp_ne (tgt := 303) hx hb dL_four_164 (by decide) (fun q => absurd rfl q) (fun _ => ?_)
  refine lv_aload_n hx hb dL_four_167 rfl (lv_at hl 0 rfl) ?_
  refine lv_iconst (v := 3) hx hb dL_four_168 (by decide) ?_
  refine lv_iconst (v := 0) hx hb dL_four_169 (by decide) ?_
  refine lo_call (As := [.int 3, .int 0]) (v := 4) (σ' := f4_s8) hB (lo_c_page l D yI yC yO h Ad f4_s8 u 3 0 _) (kw_four_page hts) rfl hl.1 rfl (Nat.le_of_ble_eq_true rfl) dL_four_170 (Nat.le_of_ble_eq_true rfl) (Nat.le_of_ble_eq_true rfl) f4_a17 rfl hP hD hS (fun u H locs hP hD hS => ?_)
  refine lv_iconst (v := 4) hx hb dL_four_173 (by decide) ?_
  refine lv_icmp_ne (tgt := 303) hx hb dL_four_174 (by decide) (fun q => absurd rfl q) (fun _ => ?_)
  refine lv_aload_n hx hb dL_four_177 rfl (lv_at hl 0 rfl) ?_
  refine lv_bipush (v := 6) hx hb dL_four_178 (by decide) ?_
  refine lo_call (As := [.int 6]) (v := 2) (σ' := f4_s8) hB (lo_c_would l D yI yC yO h Ad f4_s8 u 6 _) (kw_four_would hts) rfl hl.1 rfl (Nat.le_of_ble_eq_true rfl) dL_four_180 (Nat.le_of_ble_eq_true rfl) (Nat.le_of_ble_eq_true rfl) f4_a18 rfl hP hD hS (fun u H locs hP hD hS => ?_)
  refine lv_iconst (v := 2) hx hb dL_four_183 (by decide) ?_
  refine lv_icmp_ne (tgt := 303) hx hb dL_four_184 (by decide) (fun q => absurd rfl q) (fun _ => ?_)
  refine lv_aload_n hx hb dL_four_187 rfl (lv_at hl 0 rfl) ?_
  refine lv_iconst (v := 2) hx hb dL_four_188 (by decide) ?_
  refine lo_call (As := [.int 2]) (v := 0) (σ' := f4_s8) hB (lo_c_would l D yI yC yO h Ad f4_s8 u 2 _) (kw_four_would hts) rfl hl.1 rfl (Nat.le_of_ble_eq_true rfl) dL_four_189 (Nat.le_of_ble_eq_true rfl) (Nat.le_of_ble_eq_true rfl) f4_a19 rfl hP hD hS (fun u H locs hP hD hS => ?_)
  refine lv_if_ne (tgt := 303) hx hb dL_four_192 (by decide) (fun q => absurd rfl q) (fun _ => ?_)
  refine lv_aload_n hx hb dL_four_195 rfl (lv_at hl 0 rfl) ?_
  refine lv_iconst (v := 3) hx hb dL_four_196 (by decide) ?_
  refine lo_call (As := [.int 3]) (v := 1) (σ' := f4_s8) hB (lo_c_would l D yI yC yO h Ad f4_s8 u 3 _) (kw_four_would hts) rfl hl.1 rfl (Nat.le_of_ble_eq_true rfl) dL_four_197 (Nat.le_of_ble_eq_true rfl) (Nat.le_of_ble_eq_true rfl) f4_a20 rfl hP hD hS (fun u H locs hP hD hS => ?_)
  refine lv_iconst (v := 1) hx hb dL_four_200 (by decide) ?_
  refine lv_icmp_ne (tgt := 303) hx hb dL_four_201 (by decide) (fun q => absurd rfl q) (fun _ => ?_)
  refine lv_aload_n hx hb dL_four_204 rfl (lv_at hl 0 rfl) ?_
  refine lv_iconst (v := 4) hx hb dL_four_205 (by decide) ?_
  refine lo_call (As := [.int 4]) (v := 1) (σ' := f4_s8) hB (lo_c_would l D yI yC yO h Ad f4_s8 u 4 _) (kw_four_would hts) rfl hl.1 rfl (Nat.le_of_ble_eq_true rfl) dL_four_206 (Nat.le_of_ble_eq_true rfl) (Nat.le_of_ble_eq_true rfl) f4_a21 rfl hP hD hS (fun u H locs hP hD hS => ?_)
  refine lv_iconst (v := 1) hx hb dL_four_209 (by decide) ?_
  refine lv_icmp_ne (tgt := 303) hx hb dL_four_210 (by decide) (fun q => absurd rfl q) (fun _ => ?_)
  refine lv_aload_n hx hb dL_four_213 rfl (lv_at hl 0 rfl) ?_
  refine lv_bipush (v := 11) hx hb dL_four_214 (by decide) ?_
  refine lo_call (As := [.int 11]) (v := 2) (σ' := f4_s8) hB (lo_c_would l D yI yC yO h Ad f4_s8 u 11 _) (kw_four_would hts) rfl hl.1 rfl (Nat.le_of_ble_eq_true rfl) dL_four_216 (Nat.le_of_ble_eq_true rfl) (Nat.le_of_ble_eq_true rfl) f4_a22 rfl hP hD hS (fun u H locs hP hD hS => ?_)
  refine lv_iconst (v := 2) hx hb dL_four_219 (by decide) ?_
  refine lv_icmp_ne (tgt := 303) hx hb dL_four_220 (by decide) (fun q => absurd rfl q) (fun _ => ?_)
  refine lv_aload_n hx hb dL_four_223 rfl (lv_at hl 0 rfl) ?_
  refine lv_bipush (v := 12) hx hb dL_four_224 (by decide) ?_
  refine lo_call (As := [.int 12]) (v := 1) (σ' := f4_s8) hB (lo_c_would l D yI yC yO h Ad f4_s8 u 12 _) (kw_four_would hts) rfl hl.1 rfl (Nat.le_of_ble_eq_true rfl) dL_four_226 (Nat.le_of_ble_eq_true rfl) (Nat.le_of_ble_eq_true rfl) f4_a23 rfl hP hD hS (fun u H locs hP hD hS => ?_)
  refine lv_iconst (v := 1) hx hb dL_four_229 (by decide) ?_
  refine lv_icmp_ne (tgt := 303) hx hb dL_four_230 (by decide) (fun q => absurd rfl q) (fun _ => ?_)
  refine lv_aload_n hx hb dL_four_233 rfl (lv_at hl 0 rfl) ?_
  refine lv_bipush (v := 20) hx hb dL_four_234 (by decide) ?_
  refine lo_call (As := [.int 20]) (v := 1) (σ' := f4_s8) hB (lo_c_would l D yI yC yO h Ad f4_s8 u 20 _) (kw_four_would hts) rfl hl.1 rfl (Nat.le_of_ble_eq_true rfl) dL_four_236 (Nat.le_of_ble_eq_true rfl) (Nat.le_of_ble_eq_true rfl) f4_a24 rfl hP hD hS (fun u H locs hP hD hS => ?_)
  refine lv_iconst (v := 1) hx hb dL_four_239 (by decide) ?_
  refine lv_icmp_ne (tgt := 303) hx hb dL_four_240 (by decide) (fun q => absurd rfl q) (fun _ => ?_)
  exact kk _ _ _ ⟨u, hP, hD, hS⟩ hl

set_option maxHeartbeats 4000000 in
set_option maxRecDepth 100000 in
theorem four_3 {p : Program} {l : Launch} {e : Env} {s : State} {m : MethodId} {args : Array Value} {below : List Frame} {meth : Method} {c : Code} {Q : State → Prop} {A : Nat → Prop} {D : va_G} {yI yC yO : ClassId} (hB : lo_B p s m args c cL_four 1 wsL_four D yI yC yO A) {h : Nat} {Ad : Nat → Nat → Nat} (kk : ∀ (H : Heap) (locs : List Loc) (ls : Array Slot), lo_I D yI yC yO A s.heap h Ad f4_s10 H locs → lv_has ls 1 [(0, .ref h)] → W p l e lo_rm_four s m args below meth c H locs 143 3511 Q (F0 m 350 ls [])) :
    ∀ (H : Heap) (locs : List Loc) (ls : Array Slot), lo_I D yI yC yO A s.heap h Ad f4_s8 H locs → lv_has ls 1 [(0, .ref h)] → W p l e lo_rm_four s m args below meth c H locs 143 3511 Q (F0 m 243 ls []) := by
  intro H locs ls hI hl
  obtain ⟨u, hP, hD, hS⟩ := hI
  have hx := hB.1.1
  have hb := hB.1.2.1
  have hown := hB.1.2.2.2.1
  have hts := hB.1.2.2.2.2
  refine lv_aload_n hx hb dL_four_243 rfl (lv_at hl 0 rfl) ?_
  refine lo_call (As := []) (v := 3) (σ' := f4_s8) hB (lo_c_best l D yI yC yO h Ad f4_s8 u _) (kw_four_best hts) rfl hl.1 rfl (Nat.le_of_ble_eq_true rfl) dL_four_244 (Nat.le_of_ble_eq_true rfl) (Nat.le_of_ble_eq_true rfl) f4_a25 rfl hP hD hS (fun u H locs hP hD hS => ?_)
  refine lv_iconst (v := 3) hx hb dL_four_247 (by decide) ?_
  refine lv_icmp_ne (tgt := 303) hx hb dL_four_248 (by decide) (fun q => absurd rfl q) (fun _ => ?_)
  refine lv_aload_n hx hb dL_four_251 rfl (lv_at hl 0 rfl) ?_
  refine lv_iconst (v := 0) hx hb dL_four_252 (by decide) ?_
  refine lo_call (As := [.int 0]) (v := (-5)) (σ' := f4_s8) hB (lo_c_open l D yI yC yO h Ad f4_s8 u 0 _) (kw_four_open hts) rfl hl.1 rfl (Nat.le_of_ble_eq_true rfl) dL_four_253 (Nat.le_of_ble_eq_true rfl) (Nat.le_of_ble_eq_true rfl) f4_a26 rfl hP hD hS (fun u H locs hP hD hS => ?_)
  refine lv_bipush (v := (-5)) hx hb dL_four_256 (by decide) ?_
  refine lv_icmp_ne (tgt := 303) hx hb dL_four_258 (by decide) (fun q => absurd rfl q) (fun _ => ?_)
  refine lv_aload_n hx hb dL_four_261 rfl (lv_at hl 0 rfl) ?_
  refine lv_iconst (v := 1) hx hb dL_four_262 (by decide) ?_
  refine lo_call (As := [.int 1]) (v := 0) (σ' := f4_s8) hB (lo_c_open l D yI yC yO h Ad f4_s8 u 1 _) (kw_four_open hts) rfl hl.1 rfl (Nat.le_of_ble_eq_true rfl) dL_four_263 (Nat.le_of_ble_eq_true rfl) (Nat.le_of_ble_eq_true rfl) f4_a27 rfl hP hD hS (fun u H locs hP hD hS => ?_)
  refine lv_if_ne (tgt := 303) hx hb dL_four_266 (by decide) (fun q => absurd rfl q) (fun _ => ?_)
  refine lv_aload_n hx hb dL_four_269 rfl (lv_at hl 0 rfl) ?_
  refine lo_call (As := []) (v := 1) (σ' := f4_s9) hB (lo_c_shoot l D yI yC yO h Ad f4_s8 u _ f4_z28) (kw_four_shoot hts) rfl hl.1 rfl (Nat.le_of_ble_eq_true rfl) dL_four_270 (Nat.le_of_ble_eq_true rfl) (Nat.le_of_ble_eq_true rfl) f4_a28 rfl hP hD hS (fun u H locs hP hD hS => ?_)
  refine lv_iconst (v := 1) hx hb dL_four_273 (by decide) ?_
  refine lv_icmp_ne (tgt := 303) hx hb dL_four_274 (by decide) (fun q => absurd rfl q) (fun _ => ?_)
  refine lv_aload_n hx hb dL_four_277 rfl (lv_at hl 0 rfl) ?_
  refine lv_iconst (v := 0) hx hb dL_four_278 (by decide) ?_
  refine lv_iconst (v := 1) hx hb dL_four_279 (by decide) ?_
  refine lo_call (As := [.int 0, .int 1]) (v := 1) (σ' := f4_s9) hB (lo_c_picture l D yI yC yO h Ad f4_s9 u 0 1 _) (kw_four_picture hts) rfl hl.1 rfl (Nat.le_of_ble_eq_true rfl) dL_four_280 (Nat.le_of_ble_eq_true rfl) (Nat.le_of_ble_eq_true rfl) f4_a29 rfl hP hD hS (fun u H locs hP hD hS => ?_)
  refine lv_iconst (v := 1) hx hb dL_four_283 (by decide) ?_
  refine lv_icmp_ne (tgt := 303) hx hb dL_four_284 (by decide) (fun q => absurd rfl q) (fun _ => ?_)
  refine lv_aload_n hx hb dL_four_287 rfl (lv_at hl 0 rfl) ?_
  refine lv_iconst (v := 0) hx hb dL_four_288 (by decide) ?_
  refine lv_iconst (v := 3) hx hb dL_four_289 (by decide) ?_
  refine lo_call (As := [.int 0, .int 3]) (v := 0) (σ' := f4_s9) hB (lo_c_picture l D yI yC yO h Ad f4_s9 u 0 3 _) (kw_four_picture hts) rfl hl.1 rfl (Nat.le_of_ble_eq_true rfl) dL_four_290 (Nat.le_of_ble_eq_true rfl) (Nat.le_of_ble_eq_true rfl) f4_a30 rfl hP hD hS (fun u H locs hP hD hS => ?_)
  refine lv_if_ne (tgt := 303) hx hb dL_four_293 (by decide) (fun q => absurd rfl q) (fun _ => ?_)
  refine lv_aload_n hx hb dL_four_296 rfl (lv_at hl 0 rfl) ?_
  refine lo_calls (X := (1, f4_s9)) (v := 1) (As := [.ref h]) (σ' := f4_s9) hB (lo_c_refused l D yI yC yO h Ad f4_s9 u _ f4_g31 f4_z31) (kw_four_refused hts) rfl hl.1 rfl (Nat.le_of_ble_eq_true rfl) dL_four_297 (Nat.le_of_ble_eq_true rfl) (Nat.le_of_ble_eq_true rfl) rfl rfl hP hD hS (fun u H locs hP hD hS => ?_)
  refine lv_if_ne (tgt := 305) hx hb dL_four_300 (by decide) (fun _ => ?_) (fun q => absurd q (by decide))
  refine lv_aload_n hx hb dL_four_305 rfl (lv_at hl 0 rfl) ?_
  refine lo_call (As := []) (v := 2) (σ' := f4_s10) hB (lo_c_turn l D yI yC yO h Ad f4_s9 u _ f4_z32) (kw_four_turn hts) rfl hl.1 rfl (Nat.le_of_ble_eq_true rfl) dL_four_306 (Nat.le_of_ble_eq_true rfl) (Nat.le_of_ble_eq_true rfl) f4_a32 rfl hP hD hS (fun u H locs hP hD hS => ?_)
  refine lv_iconst (v := 2) hx hb dL_four_309 (by decide) ?_
  refine lv_icmp_ne (tgt := 704) hx hb dL_four_310 (by decide) (fun q => absurd rfl q) (fun _ => ?_)
  refine lv_aload_n hx hb dL_four_313 rfl (lv_at hl 0 rfl) ?_
  refine lv_iconst (v := 1) hx hb dL_four_314 (by decide) ?_
  refine lo_call (As := [.int 1]) (v := 2) (σ' := f4_s10) hB (lo_c_count l D yI yC yO h Ad f4_s10 u 1 _) (kw_four_count hts) rfl hl.1 rfl (Nat.le_of_ble_eq_true rfl) dL_four_315 (Nat.le_of_ble_eq_true rfl) (Nat.le_of_ble_eq_true rfl) f4_a33 rfl hP hD hS (fun u H locs hP hD hS => ?_)
  refine lv_iconst (v := 2) hx hb dL_four_318 (by decide) ?_
  refine lv_icmp_ne (tgt := 704) hx hb dL_four_319 (by decide) (fun q => absurd rfl q) (fun _ => ?_)
  refine lv_aload_n hx hb dL_four_322 rfl (lv_at hl 0 rfl) ?_
  refine lv_bipush (v := 8) hx hb dL_four_323 (by decide) ?_
  refine lo_call (As := [.int 8]) (v := 1) (σ' := f4_s10) hB (lo_c_count l D yI yC yO h Ad f4_s10 u 8 _) (kw_four_count hts) rfl hl.1 rfl (Nat.le_of_ble_eq_true rfl) dL_four_325 (Nat.le_of_ble_eq_true rfl) (Nat.le_of_ble_eq_true rfl) f4_a34 rfl hP hD hS (fun u H locs hP hD hS => ?_)
  refine lv_iconst (v := 1) hx hb dL_four_328 (by decide) ?_
  refine lv_icmp_ne (tgt := 704) hx hb dL_four_329 (by decide) (fun q => absurd rfl q) (fun _ => ?_)
  refine lv_aload_n hx hb dL_four_332 rfl (lv_at hl 0 rfl) ?_
  refine lv_iconst (v := 0) hx hb dL_four_333 (by decide) ?_
  refine lo_call (As := [.int 0]) (v := 3) (σ' := f4_s10) hB (lo_c_open l D yI yC yO h Ad f4_s10 u 0 _) (kw_four_open hts) rfl hl.1 rfl (Nat.le_of_ble_eq_true rfl) dL_four_334 (Nat.le_of_ble_eq_true rfl) (Nat.le_of_ble_eq_true rfl) f4_a35 rfl hP hD hS (fun u H locs hP hD hS => ?_)
  refine lv_iconst (v := 3) hx hb dL_four_337 (by decide) ?_
  refine lv_icmp_ne (tgt := 704) hx hb dL_four_338 (by decide) (fun q => absurd rfl q) (fun _ => ?_)
  refine lv_aload_n hx hb dL_four_341 rfl (lv_at hl 0 rfl) ?_
  refine lv_iconst (v := 1) hx hb dL_four_342 (by decide) ?_
  refine lo_call (As := [.int 1]) (v := 4) (σ' := f4_s10) hB (lo_c_open l D yI yC yO h Ad f4_s10 u 1 _) (kw_four_open hts) rfl hl.1 rfl (Nat.le_of_ble_eq_true rfl) dL_four_343 (Nat.le_of_ble_eq_true rfl) (Nat.le_of_ble_eq_true rfl) f4_a36 rfl hP hD hS (fun u H locs hP hD hS => ?_)
  refine lv_iconst (v := 4) hx hb dL_four_346 (by decide) ?_
  refine lv_icmp_ne (tgt := 704) hx hb dL_four_347 (by decide) (fun q => absurd rfl q) (fun _ => ?_)
  exact kk _ _ _ ⟨u, hP, hD, hS⟩ hl

set_option maxHeartbeats 4000000 in
set_option maxRecDepth 100000 in
theorem four_4 {p : Program} {l : Launch} {e : Env} {s : State} {m : MethodId} {args : Array Value} {below : List Frame} {meth : Method} {c : Code} {Q : State → Prop} {A : Nat → Prop} {D : va_G} {yI yC yO : ClassId} (hB : lo_B p s m args c cL_four 1 wsL_four D yI yC yO A) {h : Nat} {Ad : Nat → Nat → Nat} (kk : ∀ (H : Heap) (locs : List Loc) (ls : Array Slot), lo_I D yI yC yO A s.heap h Ad f4_s12 H locs → lv_has ls 1 [(0, .ref h)] → W p l e lo_rm_four s m args below meth c H locs 143 3511 Q (F0 m 465 ls [])) :
    ∀ (H : Heap) (locs : List Loc) (ls : Array Slot), lo_I D yI yC yO A s.heap h Ad f4_s10 H locs → lv_has ls 1 [(0, .ref h)] → W p l e lo_rm_four s m args below meth c H locs 143 3511 Q (F0 m 350 ls []) := by
  intro H locs ls hI hl
  obtain ⟨u, hP, hD, hS⟩ := hI
  have hx := hB.1.1
  have hb := hB.1.2.1
  have hown := hB.1.2.2.2.1
  have hts := hB.1.2.2.2.2
  refine lv_aload_n hx hb dL_four_350 rfl (lv_at hl 0 rfl) ?_
  refine lo_call (As := []) (v := 2) (σ' := f4_s11) hB (lo_c_shoot l D yI yC yO h Ad f4_s10 u _ f4_z37) (kw_four_shoot hts) rfl hl.1 rfl (Nat.le_of_ble_eq_true rfl) dL_four_351 (Nat.le_of_ble_eq_true rfl) (Nat.le_of_ble_eq_true rfl) f4_a37 rfl hP hD hS (fun u H locs hP hD hS => ?_)
  refine lv_iconst (v := 2) hx hb dL_four_354 (by decide) ?_
  refine lv_icmp_ne (tgt := 704) hx hb dL_four_355 (by decide) (fun q => absurd rfl q) (fun _ => ?_)
  refine lv_aload_n hx hb dL_four_358 rfl (lv_at hl 0 rfl) ?_
  refine lv_iconst (v := 1) hx hb dL_four_359 (by decide) ?_
  refine lv_iconst (v := 1) hx hb dL_four_360 (by decide) ?_
  refine lo_call (As := [.int 1, .int 1]) (v := 4) (σ' := f4_s11) hB (lo_c_picture l D yI yC yO h Ad f4_s11 u 1 1 _) (kw_four_picture hts) rfl hl.1 rfl (Nat.le_of_ble_eq_true rfl) dL_four_361 (Nat.le_of_ble_eq_true rfl) (Nat.le_of_ble_eq_true rfl) f4_a38 rfl hP hD hS (fun u H locs hP hD hS => ?_)
  refine lv_iconst (v := 4) hx hb dL_four_364 (by decide) ?_
  refine lv_icmp_ne (tgt := 704) hx hb dL_four_365 (by decide) (fun q => absurd rfl q) (fun _ => ?_)
  refine lv_aload_n hx hb dL_four_368 rfl (lv_at hl 0 rfl) ?_
  refine lv_iconst (v := 1) hx hb dL_four_369 (by decide) ?_
  refine lv_iconst (v := 3) hx hb dL_four_370 (by decide) ?_
  refine lo_call (As := [.int 1, .int 3]) (v := 3) (σ' := f4_s11) hB (lo_c_picture l D yI yC yO h Ad f4_s11 u 1 3 _) (kw_four_picture hts) rfl hl.1 rfl (Nat.le_of_ble_eq_true rfl) dL_four_371 (Nat.le_of_ble_eq_true rfl) (Nat.le_of_ble_eq_true rfl) f4_a39 rfl hP hD hS (fun u H locs hP hD hS => ?_)
  refine lv_iconst (v := 3) hx hb dL_four_374 (by decide) ?_
  refine lv_icmp_ne (tgt := 704) hx hb dL_four_375 (by decide) (fun q => absurd rfl q) (fun _ => ?_)
  refine lv_aload_n hx hb dL_four_378 rfl (lv_at hl 0 rfl) ?_
  refine lv_iconst (v := 2) hx hb dL_four_379 (by decide) ?_
  refine lv_iconst (v := 1) hx hb dL_four_380 (by decide) ?_
  refine lo_call (As := [.int 2, .int 1]) (v := (-5)) (σ' := f4_s11) hB (lo_c_picture l D yI yC yO h Ad f4_s11 u 2 1 _) (kw_four_picture hts) rfl hl.1 rfl (Nat.le_of_ble_eq_true rfl) dL_four_381 (Nat.le_of_ble_eq_true rfl) (Nat.le_of_ble_eq_true rfl) f4_a40 rfl hP hD hS (fun u H locs hP hD hS => ?_)
  refine lv_bipush (v := (-5)) hx hb dL_four_384 (by decide) ?_
  refine lv_icmp_ne (tgt := 704) hx hb dL_four_386 (by decide) (fun q => absurd rfl q) (fun _ => ?_)
  refine lv_aload_n hx hb dL_four_389 rfl (lv_at hl 0 rfl) ?_
  refine lv_iconst (v := 2) hx hb dL_four_390 (by decide) ?_
  refine lv_iconst (v := 2) hx hb dL_four_391 (by decide) ?_
  refine lo_call (As := [.int 2, .int 2]) (v := 1) (σ' := f4_s11) hB (lo_c_picture l D yI yC yO h Ad f4_s11 u 2 2 _) (kw_four_picture hts) rfl hl.1 rfl (Nat.le_of_ble_eq_true rfl) dL_four_392 (Nat.le_of_ble_eq_true rfl) (Nat.le_of_ble_eq_true rfl) f4_a41 rfl hP hD hS (fun u H locs hP hD hS => ?_)
  refine lv_iconst (v := 1) hx hb dL_four_395 (by decide) ?_
  refine lv_icmp_ne (tgt := 704) hx hb dL_four_396 (by decide) (fun q => absurd rfl q) (fun _ => ?_)
  refine lv_aload_n hx hb dL_four_399 rfl (lv_at hl 0 rfl) ?_
  refine lv_iconst (v := 2) hx hb dL_four_400 (by decide) ?_
  refine lv_iconst (v := 3) hx hb dL_four_401 (by decide) ?_
  refine lo_call (As := [.int 2, .int 3]) (v := 4) (σ' := f4_s11) hB (lo_c_picture l D yI yC yO h Ad f4_s11 u 2 3 _) (kw_four_picture hts) rfl hl.1 rfl (Nat.le_of_ble_eq_true rfl) dL_four_402 (Nat.le_of_ble_eq_true rfl) (Nat.le_of_ble_eq_true rfl) f4_a42 rfl hP hD hS (fun u H locs hP hD hS => ?_)
  refine lv_iconst (v := 4) hx hb dL_four_405 (by decide) ?_
  refine lv_icmp_ne (tgt := 704) hx hb dL_four_406 (by decide) (fun q => absurd rfl q) (fun _ => ?_)
  refine lv_aload_n hx hb dL_four_409 rfl (lv_at hl 0 rfl) ?_
  refine lv_iconst (v := 3) hx hb dL_four_410 (by decide) ?_
  refine lo_call (As := [.int 3]) (v := 5) (σ' := f4_s11) hB (lo_c_count l D yI yC yO h Ad f4_s11 u 3 _) (kw_four_count hts) rfl hl.1 rfl (Nat.le_of_ble_eq_true rfl) dL_four_411 (Nat.le_of_ble_eq_true rfl) (Nat.le_of_ble_eq_true rfl) f4_a43 rfl hP hD hS (fun u H locs hP hD hS => ?_)
  refine lv_iconst (v := 5) hx hb dL_four_414 (by decide) ?_
  refine lv_icmp_ne (tgt := 704) hx hb dL_four_415 (by decide) (fun q => absurd rfl q) (fun _ => ?_)
  refine lv_aload_n hx hb dL_four_418 rfl (lv_at hl 0 rfl) ?_
  refine lv_iconst (v := 0) hx hb dL_four_419 (by decide) ?_
  refine lo_call (As := [.int 0]) (v := 1) (σ' := f4_s11) hB (lo_c_lacking l D yI yC yO h Ad f4_s11 u 0 _) (kw_four_lacking hts) rfl hl.1 rfl (Nat.le_of_ble_eq_true rfl) dL_four_420 (Nat.le_of_ble_eq_true rfl) (Nat.le_of_ble_eq_true rfl) f4_a44 rfl hP hD hS (fun u H locs hP hD hS => ?_)
  refine lv_iconst (v := 1) hx hb dL_four_423 (by decide) ?_
  refine lv_icmp_ne (tgt := 704) hx hb dL_four_424 (by decide) (fun q => absurd rfl q) (fun _ => ?_)
  refine lv_aload_n hx hb dL_four_427 rfl (lv_at hl 0 rfl) ?_
  refine lv_iconst (v := 4) hx hb dL_four_428 (by decide) ?_
  refine lo_call (As := [.int 4]) (v := 7) (σ' := f4_s11) hB (lo_c_lacking l D yI yC yO h Ad f4_s11 u 4 _) (kw_four_lacking hts) rfl hl.1 rfl (Nat.le_of_ble_eq_true rfl) dL_four_429 (Nat.le_of_ble_eq_true rfl) (Nat.le_of_ble_eq_true rfl) f4_a45 rfl hP hD hS (fun u H locs hP hD hS => ?_)
  refine lv_bipush (v := 7) hx hb dL_four_432 (by decide) ?_
  refine lv_icmp_ne (tgt := 704) hx hb dL_four_434 (by decide) (fun q => absurd rfl q) (fun _ => ?_)
  refine lv_aload_n hx hb dL_four_437 rfl (lv_at hl 0 rfl) ?_
  refine lv_iconst (v := 5) hx hb dL_four_438 (by decide) ?_
  refine lo_call (As := [.int 5]) (v := (-5)) (σ' := f4_s11) hB (lo_c_lacking l D yI yC yO h Ad f4_s11 u 5 _) (kw_four_lacking hts) rfl hl.1 rfl (Nat.le_of_ble_eq_true rfl) dL_four_439 (Nat.le_of_ble_eq_true rfl) (Nat.le_of_ble_eq_true rfl) f4_a46 rfl hP hD hS (fun u H locs hP hD hS => ?_)
  refine lv_bipush (v := (-5)) hx hb dL_four_442 (by decide) ?_
  refine lv_icmp_ne (tgt := 704) hx hb dL_four_444 (by decide) (fun q => absurd rfl q) (fun _ => ?_)
  refine lv_aload_n hx hb dL_four_447 rfl (lv_at hl 0 rfl) ?_
  refine lo_call (As := []) (v := 2) (σ' := f4_s12) hB (lo_c_turn l D yI yC yO h Ad f4_s11 u _ f4_z47) (kw_four_turn hts) rfl hl.1 rfl (Nat.le_of_ble_eq_true rfl) dL_four_448 (Nat.le_of_ble_eq_true rfl) (Nat.le_of_ble_eq_true rfl) f4_a47 rfl hP hD hS (fun u H locs hP hD hS => ?_)
  refine lv_iconst (v := 2) hx hb dL_four_451 (by decide) ?_
  refine lv_icmp_ne (tgt := 704) hx hb dL_four_452 (by decide) (fun q => absurd rfl q) (fun _ => ?_)
  refine lv_aload_n hx hb dL_four_455 rfl (lv_at hl 0 rfl) ?_
  refine lv_bipush (v := 8) hx hb dL_four_456 (by decide) ?_
  refine lo_call (As := [.int 8]) (v := 2) (σ' := f4_s12) hB (lo_c_count l D yI yC yO h Ad f4_s12 u 8 _) (kw_four_count hts) rfl hl.1 rfl (Nat.le_of_ble_eq_true rfl) dL_four_458 (Nat.le_of_ble_eq_true rfl) (Nat.le_of_ble_eq_true rfl) f4_a48 rfl hP hD hS (fun u H locs hP hD hS => ?_)
  refine lv_iconst (v := 2) hx hb dL_four_461 (by decide) ?_
  refine lv_icmp_ne (tgt := 704) hx hb dL_four_462 (by decide) (fun q => absurd rfl q) (fun _ => ?_)
  exact kk _ _ _ ⟨u, hP, hD, hS⟩ hl

set_option maxHeartbeats 4000000 in
set_option maxRecDepth 100000 in
theorem four_5 {p : Program} {l : Launch} {e : Env} {s : State} {m : MethodId} {args : Array Value} {below : List Frame} {meth : Method} {c : Code} {Q : State → Prop} {A : Nat → Prop} {D : va_G} {yI yC yO : ClassId} (hB : lo_B p s m args c cL_four 1 wsL_four D yI yC yO A) {h : Nat} {Ad : Nat → Nat → Nat} (kk : ∀ (H : Heap) (locs : List Loc) (ls : Array Slot), lo_I D yI yC yO A s.heap h Ad f4_s15 H locs → lv_has ls 1 [(0, .ref h)] → W p l e lo_rm_four s m args below meth c H locs 143 3511 Q (F0 m 577 ls [])) :
    ∀ (H : Heap) (locs : List Loc) (ls : Array Slot), lo_I D yI yC yO A s.heap h Ad f4_s12 H locs → lv_has ls 1 [(0, .ref h)] → W p l e lo_rm_four s m args below meth c H locs 143 3511 Q (F0 m 465 ls []) := by
  intro H locs ls hI hl
  obtain ⟨u, hP, hD, hS⟩ := hI
  have hx := hB.1.1
  have hb := hB.1.2.1
  have hown := hB.1.2.2.2.1
  have hts := hB.1.2.2.2.2
  refine lv_aload_n hx hb dL_four_465 rfl (lv_at hl 0 rfl) ?_
  refine lo_call (As := []) (v := 1) (σ' := f4_s13) hB (lo_c_shoot l D yI yC yO h Ad f4_s12 u _ f4_z49) (kw_four_shoot hts) rfl hl.1 rfl (Nat.le_of_ble_eq_true rfl) dL_four_466 (Nat.le_of_ble_eq_true rfl) (Nat.le_of_ble_eq_true rfl) f4_a49 rfl hP hD hS (fun u H locs hP hD hS => ?_)
  refine lv_iconst (v := 1) hx hb dL_four_469 (by decide) ?_
  refine lv_icmp_ne (tgt := 704) hx hb dL_four_470 (by decide) (fun q => absurd rfl q) (fun _ => ?_)
  refine lv_aload_n hx hb dL_four_473 rfl (lv_at hl 0 rfl) ?_
  refine lv_iconst (v := 3) hx hb dL_four_474 (by decide) ?_
  refine lv_iconst (v := 0) hx hb dL_four_475 (by decide) ?_
  refine lo_call (As := [.int 3, .int 0]) (v := 7) (σ' := f4_s13) hB (lo_c_picture l D yI yC yO h Ad f4_s13 u 3 0 _) (kw_four_picture hts) rfl hl.1 rfl (Nat.le_of_ble_eq_true rfl) dL_four_476 (Nat.le_of_ble_eq_true rfl) (Nat.le_of_ble_eq_true rfl) f4_a50 rfl hP hD hS (fun u H locs hP hD hS => ?_)
  refine lv_bipush (v := 7) hx hb dL_four_479 (by decide) ?_
  refine lv_icmp_ne (tgt := 704) hx hb dL_four_481 (by decide) (fun q => absurd rfl q) (fun _ => ?_)
  refine lv_aload_n hx hb dL_four_484 rfl (lv_at hl 0 rfl) ?_
  refine lv_iconst (v := 3) hx hb dL_four_485 (by decide) ?_
  refine lv_iconst (v := 1) hx hb dL_four_486 (by decide) ?_
  refine lo_call (As := [.int 3, .int 1]) (v := 10) (σ' := f4_s13) hB (lo_c_picture l D yI yC yO h Ad f4_s13 u 3 1 _) (kw_four_picture hts) rfl hl.1 rfl (Nat.le_of_ble_eq_true rfl) dL_four_487 (Nat.le_of_ble_eq_true rfl) (Nat.le_of_ble_eq_true rfl) f4_a51 rfl hP hD hS (fun u H locs hP hD hS => ?_)
  refine lv_bipush (v := 10) hx hb dL_four_490 (by decide) ?_
  refine lv_icmp_ne (tgt := 704) hx hb dL_four_492 (by decide) (fun q => absurd rfl q) (fun _ => ?_)
  refine lv_aload_n hx hb dL_four_495 rfl (lv_at hl 0 rfl) ?_
  refine lv_iconst (v := 3) hx hb dL_four_496 (by decide) ?_
  refine lv_iconst (v := 3) hx hb dL_four_497 (by decide) ?_
  refine lo_call (As := [.int 3, .int 3]) (v := 5) (σ' := f4_s13) hB (lo_c_picture l D yI yC yO h Ad f4_s13 u 3 3 _) (kw_four_picture hts) rfl hl.1 rfl (Nat.le_of_ble_eq_true rfl) dL_four_498 (Nat.le_of_ble_eq_true rfl) (Nat.le_of_ble_eq_true rfl) f4_a52 rfl hP hD hS (fun u H locs hP hD hS => ?_)
  refine lv_iconst (v := 5) hx hb dL_four_501 (by decide) ?_
  refine lv_icmp_ne (tgt := 704) hx hb dL_four_502 (by decide) (fun q => absurd rfl q) (fun _ => ?_)
  refine lv_aload_n hx hb dL_four_505 rfl (lv_at hl 0 rfl) ?_
  refine lv_iconst (v := 5) hx hb dL_four_506 (by decide) ?_
  refine lv_iconst (v := 1) hx hb dL_four_507 (by decide) ?_
  refine lo_call (As := [.int 5, .int 1]) (v := 3) (σ' := f4_s13) hB (lo_c_page l D yI yC yO h Ad f4_s13 u 5 1 _) (kw_four_page hts) rfl hl.1 rfl (Nat.le_of_ble_eq_true rfl) dL_four_508 (Nat.le_of_ble_eq_true rfl) (Nat.le_of_ble_eq_true rfl) f4_a53 rfl hP hD hS (fun u H locs hP hD hS => ?_)
  refine lv_iconst (v := 3) hx hb dL_four_511 (by decide) ?_
  refine lv_icmp_ne (tgt := 704) hx hb dL_four_512 (by decide) (fun q => absurd rfl q) (fun _ => ?_)
  refine lv_aload_n hx hb dL_four_515 rfl (lv_at hl 0 rfl) ?_
  refine lv_iconst (v := 5) hx hb dL_four_516 (by decide) ?_
  refine lv_iconst (v := 3) hx hb dL_four_517 (by decide) ?_
  refine lo_call (As := [.int 5, .int 3]) (v := 1) (σ' := f4_s13) hB (lo_c_page l D yI yC yO h Ad f4_s13 u 5 3 _) (kw_four_page hts) rfl hl.1 rfl (Nat.le_of_ble_eq_true rfl) dL_four_518 (Nat.le_of_ble_eq_true rfl) (Nat.le_of_ble_eq_true rfl) f4_a54 rfl hP hD hS (fun u H locs hP hD hS => ?_)
  refine lv_iconst (v := 1) hx hb dL_four_521 (by decide) ?_
  refine lv_icmp_ne (tgt := 704) hx hb dL_four_522 (by decide) (fun q => absurd rfl q) (fun _ => ?_)
  refine lv_aload_n hx hb dL_four_525 rfl (lv_at hl 0 rfl) ?_
  refine lv_iconst (v := 4) hx hb dL_four_526 (by decide) ?_
  refine lo_call (As := [.int 4]) (v := 1) (σ' := f4_s13) hB (lo_c_count l D yI yC yO h Ad f4_s13 u 4 _) (kw_four_count hts) rfl hl.1 rfl (Nat.le_of_ble_eq_true rfl) dL_four_527 (Nat.le_of_ble_eq_true rfl) (Nat.le_of_ble_eq_true rfl) f4_a55 rfl hP hD hS (fun u H locs hP hD hS => ?_)
  refine lv_iconst (v := 1) hx hb dL_four_530 (by decide) ?_
  refine lv_icmp_ne (tgt := 704) hx hb dL_four_531 (by decide) (fun q => absurd rfl q) (fun _ => ?_)
  refine lv_aload_n hx hb dL_four_534 rfl (lv_at hl 0 rfl) ?_
  refine lv_iconst (v := 5) hx hb dL_four_535 (by decide) ?_
  refine lo_call (As := [.int 5]) (v := 0) (σ' := f4_s13) hB (lo_c_count l D yI yC yO h Ad f4_s13 u 5 _) (kw_four_count hts) rfl hl.1 rfl (Nat.le_of_ble_eq_true rfl) dL_four_536 (Nat.le_of_ble_eq_true rfl) (Nat.le_of_ble_eq_true rfl) f4_a56 rfl hP hD hS (fun u H locs hP hD hS => ?_)
  refine lv_if_ne (tgt := 704) hx hb dL_four_539 (by decide) (fun q => absurd rfl q) (fun _ => ?_)
  refine lv_aload_n hx hb dL_four_542 rfl (lv_at hl 0 rfl) ?_
  refine lv_bipush (v := 6) hx hb dL_four_543 (by decide) ?_
  refine lo_call (As := [.int 6]) (v := 0) (σ' := f4_s13) hB (lo_c_count l D yI yC yO h Ad f4_s13 u 6 _) (kw_four_count hts) rfl hl.1 rfl (Nat.le_of_ble_eq_true rfl) dL_four_545 (Nat.le_of_ble_eq_true rfl) (Nat.le_of_ble_eq_true rfl) f4_a57 rfl hP hD hS (fun u H locs hP hD hS => ?_)
  refine lv_if_ne (tgt := 704) hx hb dL_four_548 (by decide) (fun q => absurd rfl q) (fun _ => ?_)
  refine lv_aload_n hx hb dL_four_551 rfl (lv_at hl 0 rfl) ?_
  refine lo_call (As := []) (v := (-4)) (σ' := f4_s14) hB (lo_c_turn l D yI yC yO h Ad f4_s13 u _ f4_z58) (kw_four_turn hts) rfl hl.1 rfl (Nat.le_of_ble_eq_true rfl) dL_four_552 (Nat.le_of_ble_eq_true rfl) (Nat.le_of_ble_eq_true rfl) f4_a58 rfl hP hD hS (fun u H locs hP hD hS => ?_)
  refine lv_bipush (v := (-4)) hx hb dL_four_555 (by decide) ?_
  refine lv_icmp_ne (tgt := 704) hx hb dL_four_557 (by decide) (fun q => absurd rfl q) (fun _ => ?_)
  refine lv_aload_n hx hb dL_four_560 rfl (lv_at hl 0 rfl) ?_
  refine lo_call (As := []) (v := 3) (σ' := f4_s15) hB (lo_c_turnBack l D yI yC yO h Ad f4_s14 u _ f4_z59) (kw_four_turnBack hts) rfl hl.1 rfl (Nat.le_of_ble_eq_true rfl) dL_four_561 (Nat.le_of_ble_eq_true rfl) (Nat.le_of_ble_eq_true rfl) f4_a59 rfl hP hD hS (fun u H locs hP hD hS => ?_)
  refine lv_iconst (v := 3) hx hb dL_four_564 (by decide) ?_
  refine lv_icmp_ne (tgt := 704) hx hb dL_four_565 (by decide) (fun q => absurd rfl q) (fun _ => ?_)
  refine lv_aload_n hx hb dL_four_568 rfl (lv_at hl 0 rfl) ?_
  refine lv_iconst (v := 0) hx hb dL_four_569 (by decide) ?_
  refine lo_call (As := [.int 0]) (v := 5) (σ' := f4_s15) hB (lo_c_open l D yI yC yO h Ad f4_s15 u 0 _) (kw_four_open hts) rfl hl.1 rfl (Nat.le_of_ble_eq_true rfl) dL_four_570 (Nat.le_of_ble_eq_true rfl) (Nat.le_of_ble_eq_true rfl) f4_a60 rfl hP hD hS (fun u H locs hP hD hS => ?_)
  refine lv_iconst (v := 5) hx hb dL_four_573 (by decide) ?_
  refine lv_icmp_ne (tgt := 704) hx hb dL_four_574 (by decide) (fun q => absurd rfl q) (fun _ => ?_)
  exact kk _ _ _ ⟨u, hP, hD, hS⟩ hl

set_option maxHeartbeats 4000000 in
set_option maxRecDepth 100000 in
theorem four_6 {p : Program} {l : Launch} {e : Env} {s : State} {m : MethodId} {args : Array Value} {below : List Frame} {meth : Method} {c : Code} {Q : State → Prop} {A : Nat → Prop} {D : va_G} {yI yC yO : ClassId} (hB : lo_B p s m args c cL_four 1 wsL_four D yI yC yO A) {h : Nat} {Ad : Nat → Nat → Nat} (kk : ∀ (H : Heap) (locs : List Loc) (ls : Array Slot), lo_I D yI yC yO A s.heap h Ad f4_s16 H locs → lv_has ls 1 [(0, .ref h)] → W p l e lo_rm_four s m args below meth c H locs 143 3511 Q (F0 m 695 ls [])) :
    ∀ (H : Heap) (locs : List Loc) (ls : Array Slot), lo_I D yI yC yO A s.heap h Ad f4_s15 H locs → lv_has ls 1 [(0, .ref h)] → W p l e lo_rm_four s m args below meth c H locs 143 3511 Q (F0 m 577 ls []) := by
  intro H locs ls hI hl
  obtain ⟨u, hP, hD, hS⟩ := hI
  have hx := hB.1.1
  have hb := hB.1.2.1
  have hown := hB.1.2.2.2.1
  have hts := hB.1.2.2.2.2
  refine lv_aload_n hx hb dL_four_577 rfl (lv_at hl 0 rfl) ?_
  refine lv_iconst (v := 1) hx hb dL_four_578 (by decide) ?_
  refine lo_call (As := [.int 1]) (v := 6) (σ' := f4_s15) hB (lo_c_open l D yI yC yO h Ad f4_s15 u 1 _) (kw_four_open hts) rfl hl.1 rfl (Nat.le_of_ble_eq_true rfl) dL_four_579 (Nat.le_of_ble_eq_true rfl) (Nat.le_of_ble_eq_true rfl) f4_a61 rfl hP hD hS (fun u H locs hP hD hS => ?_)
  refine lv_bipush (v := 6) hx hb dL_four_582 (by decide) ?_
  refine lv_icmp_ne (tgt := 704) hx hb dL_four_584 (by decide) (fun q => absurd rfl q) (fun _ => ?_)
  refine lv_aload_n hx hb dL_four_587 rfl (lv_at hl 0 rfl) ?_
  refine lo_call (As := []) (v := 2) (σ' := f4_s16) hB (lo_c_shoot l D yI yC yO h Ad f4_s15 u _ f4_z62) (kw_four_shoot hts) rfl hl.1 rfl (Nat.le_of_ble_eq_true rfl) dL_four_588 (Nat.le_of_ble_eq_true rfl) (Nat.le_of_ble_eq_true rfl) f4_a62 rfl hP hD hS (fun u H locs hP hD hS => ?_)
  refine lv_iconst (v := 2) hx hb dL_four_591 (by decide) ?_
  refine lv_icmp_ne (tgt := 704) hx hb dL_four_592 (by decide) (fun q => absurd rfl q) (fun _ => ?_)
  refine lv_aload_n hx hb dL_four_595 rfl (lv_at hl 0 rfl) ?_
  refine lv_iconst (v := 4) hx hb dL_four_596 (by decide) ?_
  refine lv_iconst (v := 1) hx hb dL_four_597 (by decide) ?_
  refine lo_call (As := [.int 4, .int 1]) (v := (-5)) (σ' := f4_s16) hB (lo_c_picture l D yI yC yO h Ad f4_s16 u 4 1 _) (kw_four_picture hts) rfl hl.1 rfl (Nat.le_of_ble_eq_true rfl) dL_four_598 (Nat.le_of_ble_eq_true rfl) (Nat.le_of_ble_eq_true rfl) f4_a63 rfl hP hD hS (fun u H locs hP hD hS => ?_)
  refine lv_bipush (v := (-5)) hx hb dL_four_601 (by decide) ?_
  refine lv_icmp_ne (tgt := 704) hx hb dL_four_603 (by decide) (fun q => absurd rfl q) (fun _ => ?_)
  refine lv_aload_n hx hb dL_four_606 rfl (lv_at hl 0 rfl) ?_
  refine lv_iconst (v := 4) hx hb dL_four_607 (by decide) ?_
  refine lv_iconst (v := 3) hx hb dL_four_608 (by decide) ?_
  refine lo_call (As := [.int 4, .int 3]) (v := 6) (σ' := f4_s16) hB (lo_c_picture l D yI yC yO h Ad f4_s16 u 4 3 _) (kw_four_picture hts) rfl hl.1 rfl (Nat.le_of_ble_eq_true rfl) dL_four_609 (Nat.le_of_ble_eq_true rfl) (Nat.le_of_ble_eq_true rfl) f4_a64 rfl hP hD hS (fun u H locs hP hD hS => ?_)
  refine lv_bipush (v := 6) hx hb dL_four_612 (by decide) ?_
  refine lv_icmp_ne (tgt := 704) hx hb dL_four_614 (by decide) (fun q => absurd rfl q) (fun _ => ?_)
  refine lv_aload_n hx hb dL_four_617 rfl (lv_at hl 0 rfl) ?_
  refine lv_iconst (v := 5) hx hb dL_four_618 (by decide) ?_
  refine lv_iconst (v := 1) hx hb dL_four_619 (by decide) ?_
  refine lo_call (As := [.int 5, .int 1]) (v := 0) (σ' := f4_s16) hB (lo_c_picture l D yI yC yO h Ad f4_s16 u 5 1 _) (kw_four_picture hts) rfl hl.1 rfl (Nat.le_of_ble_eq_true rfl) dL_four_620 (Nat.le_of_ble_eq_true rfl) (Nat.le_of_ble_eq_true rfl) f4_a65 rfl hP hD hS (fun u H locs hP hD hS => ?_)
  refine lv_if_ne (tgt := 704) hx hb dL_four_623 (by decide) (fun q => absurd rfl q) (fun _ => ?_)
  refine lv_aload_n hx hb dL_four_626 rfl (lv_at hl 0 rfl) ?_
  refine lv_iconst (v := 5) hx hb dL_four_627 (by decide) ?_
  refine lv_iconst (v := 2) hx hb dL_four_628 (by decide) ?_
  refine lo_call (As := [.int 5, .int 2]) (v := 0) (σ' := f4_s16) hB (lo_c_picture l D yI yC yO h Ad f4_s16 u 5 2 _) (kw_four_picture hts) rfl hl.1 rfl (Nat.le_of_ble_eq_true rfl) dL_four_629 (Nat.le_of_ble_eq_true rfl) (Nat.le_of_ble_eq_true rfl) f4_a66 rfl hP hD hS (fun u H locs hP hD hS => ?_)
  refine lv_if_ne (tgt := 704) hx hb dL_four_632 (by decide) (fun q => absurd rfl q) (fun _ => ?_)
  refine lv_aload_n hx hb dL_four_635 rfl (lv_at hl 0 rfl) ?_
  refine lv_iconst (v := 5) hx hb dL_four_636 (by decide) ?_
  refine lv_iconst (v := 3) hx hb dL_four_637 (by decide) ?_
  refine lo_call (As := [.int 5, .int 3]) (v := 7) (σ' := f4_s16) hB (lo_c_picture l D yI yC yO h Ad f4_s16 u 5 3 _) (kw_four_picture hts) rfl hl.1 rfl (Nat.le_of_ble_eq_true rfl) dL_four_638 (Nat.le_of_ble_eq_true rfl) (Nat.le_of_ble_eq_true rfl) f4_a67 rfl hP hD hS (fun u H locs hP hD hS => ?_)
  refine lv_bipush (v := 7) hx hb dL_four_641 (by decide) ?_
  refine lv_icmp_ne (tgt := 704) hx hb dL_four_643 (by decide) (fun q => absurd rfl q) (fun _ => ?_)
  refine lv_aload_n hx hb dL_four_646 rfl (lv_at hl 0 rfl) ?_
  refine lv_iconst (v := 5) hx hb dL_four_647 (by decide) ?_
  refine lv_iconst (v := 5) hx hb dL_four_648 (by decide) ?_
  refine lo_call (As := [.int 5, .int 5]) (v := 1) (σ' := f4_s16) hB (lo_c_picture l D yI yC yO h Ad f4_s16 u 5 5 _) (kw_four_picture hts) rfl hl.1 rfl (Nat.le_of_ble_eq_true rfl) dL_four_649 (Nat.le_of_ble_eq_true rfl) (Nat.le_of_ble_eq_true rfl) f4_a68 rfl hP hD hS (fun u H locs hP hD hS => ?_)
  refine lv_iconst (v := 1) hx hb dL_four_652 (by decide) ?_
  refine lv_icmp_ne (tgt := 704) hx hb dL_four_653 (by decide) (fun q => absurd rfl q) (fun _ => ?_)
  refine lv_aload_n hx hb dL_four_656 rfl (lv_at hl 0 rfl) ?_
  refine lv_iconst (v := 4) hx hb dL_four_657 (by decide) ?_
  refine lv_iconst (v := 5) hx hb dL_four_658 (by decide) ?_
  refine lo_call (As := [.int 4, .int 5]) (v := 0) (σ' := f4_s16) hB (lo_c_picture l D yI yC yO h Ad f4_s16 u 4 5 _) (kw_four_picture hts) rfl hl.1 rfl (Nat.le_of_ble_eq_true rfl) dL_four_659 (Nat.le_of_ble_eq_true rfl) (Nat.le_of_ble_eq_true rfl) f4_a69 rfl hP hD hS (fun u H locs hP hD hS => ?_)
  refine lv_if_ne (tgt := 704) hx hb dL_four_662 (by decide) (fun q => absurd rfl q) (fun _ => ?_)
  refine lv_aload_n hx hb dL_four_665 rfl (lv_at hl 0 rfl) ?_
  refine lv_iconst (v := 5) hx hb dL_four_666 (by decide) ?_
  refine lv_bipush (v := 6) hx hb dL_four_667 (by decide) ?_
  refine lo_call (As := [.int 5, .int 6]) (v := 3) (σ' := f4_s16) hB (lo_c_picture l D yI yC yO h Ad f4_s16 u 5 6 _) (kw_four_picture hts) rfl hl.1 rfl (Nat.le_of_ble_eq_true rfl) dL_four_669 (Nat.le_of_ble_eq_true rfl) (Nat.le_of_ble_eq_true rfl) f4_a70 rfl hP hD hS (fun u H locs hP hD hS => ?_)
  refine lv_iconst (v := 3) hx hb dL_four_672 (by decide) ?_
  refine lv_icmp_ne (tgt := 704) hx hb dL_four_673 (by decide) (fun q => absurd rfl q) (fun _ => ?_)
  refine lv_aload_n hx hb dL_four_676 rfl (lv_at hl 0 rfl) ?_
  refine lv_bipush (v := 14) hx hb dL_four_677 (by decide) ?_
  refine lo_call (As := [.int 14]) (v := 4) (σ' := f4_s16) hB (lo_c_count l D yI yC yO h Ad f4_s16 u 14 _) (kw_four_count hts) rfl hl.1 rfl (Nat.le_of_ble_eq_true rfl) dL_four_679 (Nat.le_of_ble_eq_true rfl) (Nat.le_of_ble_eq_true rfl) f4_a71 rfl hP hD hS (fun u H locs hP hD hS => ?_)
  refine lv_iconst (v := 4) hx hb dL_four_682 (by decide) ?_
  refine lv_icmp_ne (tgt := 704) hx hb dL_four_683 (by decide) (fun q => absurd rfl q) (fun _ => ?_)
  refine lv_aload_n hx hb dL_four_686 rfl (lv_at hl 0 rfl) ?_
  refine lv_iconst (v := 4) hx hb dL_four_687 (by decide) ?_
  refine lo_call (As := [.int 4]) (v := 3) (σ' := f4_s16) hB (lo_c_count l D yI yC yO h Ad f4_s16 u 4 _) (kw_four_count hts) rfl hl.1 rfl (Nat.le_of_ble_eq_true rfl) dL_four_688 (Nat.le_of_ble_eq_true rfl) (Nat.le_of_ble_eq_true rfl) f4_a72 rfl hP hD hS (fun u H locs hP hD hS => ?_)
  refine lv_iconst (v := 3) hx hb dL_four_691 (by decide) ?_
  refine lv_icmp_ne (tgt := 704) hx hb dL_four_692 (by decide) (fun q => absurd rfl q) (fun _ => ?_)
  exact kk _ _ _ ⟨u, hP, hD, hS⟩ hl

set_option maxHeartbeats 4000000 in
set_option maxRecDepth 100000 in
theorem four_7 {p : Program} {l : Launch} {e : Env} {s : State} {m : MethodId} {args : Array Value} {below : List Frame} {meth : Method} {c : Code} {Q : State → Prop} {A : Nat → Prop} {D : va_G} {yI yC yO : ClassId} (hB : lo_B p s m args c cL_four 1 wsL_four D yI yC yO A) {h : Nat} {Ad : Nat → Nat → Nat} (kk : ∀ (H : Heap) (locs : List Loc) (ls : Array Slot), lo_I D yI yC yO A s.heap h Ad f4_s21 H locs → lv_has ls 1 [(0, .ref h)] → W p l e lo_rm_four s m args below meth c H locs 143 3511 Q (F0 m 822 ls [])) :
    ∀ (H : Heap) (locs : List Loc) (ls : Array Slot), lo_I D yI yC yO A s.heap h Ad f4_s16 H locs → lv_has ls 1 [(0, .ref h)] → W p l e lo_rm_four s m args below meth c H locs 143 3511 Q (F0 m 695 ls []) := by
  intro H locs ls hI hl
  obtain ⟨u, hP, hD, hS⟩ := hI
  have hx := hB.1.1
  have hb := hB.1.2.1
  have hown := hB.1.2.2.2.1
  have hts := hB.1.2.2.2.2
  refine lv_aload_n hx hb dL_four_695 rfl (lv_at hl 0 rfl) ?_
  refine lv_iconst (v := 3) hx hb dL_four_696 (by decide) ?_
  refine lo_call (As := [.int 3]) (v := 2) (σ' := f4_s16) hB (lo_c_count l D yI yC yO h Ad f4_s16 u 3 _) (kw_four_count hts) rfl hl.1 rfl (Nat.le_of_ble_eq_true rfl) dL_four_697 (Nat.le_of_ble_eq_true rfl) (Nat.le_of_ble_eq_true rfl) f4_a73 rfl hP hD hS (fun u H locs hP hD hS => ?_)
  refine lv_iconst (v := 2) hx hb dL_four_700 (by decide) ?_
  refine lv_icmp_eq (tgt := 706) hx hb dL_four_701 (by decide) (fun _ => ?_) (fun q => absurd (by decide) q)
  refine lv_aload_n hx hb dL_four_706 rfl (lv_at hl 0 rfl) ?_
  refine lv_iconst (v := 3) hx hb dL_four_707 (by decide) ?_
  refine lo_call (As := [.int 3]) (v := 5) (σ' := f4_s17) hB (lo_c_throwAway l D yI yC yO h Ad f4_s16 u 3 _ f4_z74) (kw_four_throwAway hts) rfl hl.1 rfl (Nat.le_of_ble_eq_true rfl) dL_four_708 (Nat.le_of_ble_eq_true rfl) (Nat.le_of_ble_eq_true rfl) f4_a74 rfl hP hD hS (fun u H locs hP hD hS => ?_)
  refine lv_iconst (v := 5) hx hb dL_four_711 (by decide) ?_
  refine lv_icmp_ne (tgt := 935) hx hb dL_four_712 (by decide) (fun q => absurd rfl q) (fun _ => ?_)
  refine lv_aload_n hx hb dL_four_715 rfl (lv_at hl 0 rfl) ?_
  refine lv_iconst (v := 3) hx hb dL_four_716 (by decide) ?_
  refine lv_iconst (v := 3) hx hb dL_four_717 (by decide) ?_
  refine lo_call (As := [.int 3, .int 3]) (v := 5) (σ' := f4_s17) hB (lo_c_picture l D yI yC yO h Ad f4_s17 u 3 3 _) (kw_four_picture hts) rfl hl.1 rfl (Nat.le_of_ble_eq_true rfl) dL_four_718 (Nat.le_of_ble_eq_true rfl) (Nat.le_of_ble_eq_true rfl) f4_a75 rfl hP hD hS (fun u H locs hP hD hS => ?_)
  refine lv_iconst (v := 5) hx hb dL_four_721 (by decide) ?_
  refine lv_icmp_ne (tgt := 935) hx hb dL_four_722 (by decide) (fun q => absurd rfl q) (fun _ => ?_)
  refine lv_aload_n hx hb dL_four_725 rfl (lv_at hl 0 rfl) ?_
  refine lv_iconst (v := 4) hx hb dL_four_726 (by decide) ?_
  refine lv_iconst (v := 3) hx hb dL_four_727 (by decide) ?_
  refine lo_call (As := [.int 4, .int 3]) (v := 6) (σ' := f4_s17) hB (lo_c_picture l D yI yC yO h Ad f4_s17 u 4 3 _) (kw_four_picture hts) rfl hl.1 rfl (Nat.le_of_ble_eq_true rfl) dL_four_728 (Nat.le_of_ble_eq_true rfl) (Nat.le_of_ble_eq_true rfl) f4_a76 rfl hP hD hS (fun u H locs hP hD hS => ?_)
  refine lv_bipush (v := 6) hx hb dL_four_731 (by decide) ?_
  refine lv_icmp_ne (tgt := 935) hx hb dL_four_733 (by decide) (fun q => absurd rfl q) (fun _ => ?_)
  refine lv_aload_n hx hb dL_four_736 rfl (lv_at hl 0 rfl) ?_
  refine lv_iconst (v := 4) hx hb dL_four_737 (by decide) ?_
  refine lv_bipush (v := 6) hx hb dL_four_738 (by decide) ?_
  refine lo_call (As := [.int 4, .int 6]) (v := 3) (σ' := f4_s17) hB (lo_c_picture l D yI yC yO h Ad f4_s17 u 4 6 _) (kw_four_picture hts) rfl hl.1 rfl (Nat.le_of_ble_eq_true rfl) dL_four_740 (Nat.le_of_ble_eq_true rfl) (Nat.le_of_ble_eq_true rfl) f4_a77 rfl hP hD hS (fun u H locs hP hD hS => ?_)
  refine lv_iconst (v := 3) hx hb dL_four_743 (by decide) ?_
  refine lv_icmp_ne (tgt := 935) hx hb dL_four_744 (by decide) (fun q => absurd rfl q) (fun _ => ?_)
  refine lv_aload_n hx hb dL_four_747 rfl (lv_at hl 0 rfl) ?_
  refine lv_iconst (v := 4) hx hb dL_four_748 (by decide) ?_
  refine lo_call (As := [.int 4]) (v := 0) (σ' := f4_s17) hB (lo_c_count l D yI yC yO h Ad f4_s17 u 4 _) (kw_four_count hts) rfl hl.1 rfl (Nat.le_of_ble_eq_true rfl) dL_four_749 (Nat.le_of_ble_eq_true rfl) (Nat.le_of_ble_eq_true rfl) f4_a78 rfl hP hD hS (fun u H locs hP hD hS => ?_)
  refine lv_if_ne (tgt := 935) hx hb dL_four_752 (by decide) (fun q => absurd rfl q) (fun _ => ?_)
  refine lv_aload_n hx hb dL_four_755 rfl (lv_at hl 0 rfl) ?_
  refine lv_iconst (v := 3) hx hb dL_four_756 (by decide) ?_
  refine lo_call (As := [.int 3]) (v := 3) (σ' := f4_s17) hB (lo_c_count l D yI yC yO h Ad f4_s17 u 3 _) (kw_four_count hts) rfl hl.1 rfl (Nat.le_of_ble_eq_true rfl) dL_four_757 (Nat.le_of_ble_eq_true rfl) (Nat.le_of_ble_eq_true rfl) f4_a79 rfl hP hD hS (fun u H locs hP hD hS => ?_)
  refine lv_iconst (v := 3) hx hb dL_four_760 (by decide) ?_
  refine lv_icmp_ne (tgt := 935) hx hb dL_four_761 (by decide) (fun q => absurd rfl q) (fun _ => ?_)
  refine lv_aload_n hx hb dL_four_764 rfl (lv_at hl 0 rfl) ?_
  refine lv_iconst (v := 2) hx hb dL_four_765 (by decide) ?_
  refine lo_call (As := [.int 2]) (v := 7) (σ' := f4_s17) hB (lo_c_lacking l D yI yC yO h Ad f4_s17 u 2 _) (kw_four_lacking hts) rfl hl.1 rfl (Nat.le_of_ble_eq_true rfl) dL_four_766 (Nat.le_of_ble_eq_true rfl) (Nat.le_of_ble_eq_true rfl) f4_a80 rfl hP hD hS (fun u H locs hP hD hS => ?_)
  refine lv_bipush (v := 7) hx hb dL_four_769 (by decide) ?_
  refine lv_icmp_ne (tgt := 935) hx hb dL_four_771 (by decide) (fun q => absurd rfl q) (fun _ => ?_)
  refine lv_aload_n hx hb dL_four_774 rfl (lv_at hl 0 rfl) ?_
  refine lv_iconst (v := 5) hx hb dL_four_775 (by decide) ?_
  refine lv_bipush (v := 6) hx hb dL_four_776 (by decide) ?_
  refine lo_call (As := [.int 5, .int 6]) (v := 200) (σ' := f4_s18) hB (lo_c_print l D yI yC yO h Ad f4_s17 u 5 6 _ f4_z81) (kw_four_print hts) rfl hl.1 rfl (Nat.le_of_ble_eq_true rfl) dL_four_778 (Nat.le_of_ble_eq_true rfl) (Nat.le_of_ble_eq_true rfl) f4_a81 rfl hP hD hS (fun u H locs hP hD hS => ?_)
  refine lv_sipush (v := 200) hx hb dL_four_781 (by decide) ?_
  refine lv_icmp_ne (tgt := 935) hx hb dL_four_784 (by decide) (fun q => absurd rfl q) (fun _ => ?_)
  refine lv_aload_n hx hb dL_four_787 rfl (lv_at hl 0 rfl) ?_
  refine lv_iconst (v := 5) hx hb dL_four_788 (by decide) ?_
  refine lv_bipush (v := 6) hx hb dL_four_789 (by decide) ?_
  refine lo_call (As := [.int 5, .int 6]) (v := (-5)) (σ' := f4_s19) hB (lo_c_print l D yI yC yO h Ad f4_s18 u 5 6 _ f4_z82) (kw_four_print hts) rfl hl.1 rfl (Nat.le_of_ble_eq_true rfl) dL_four_791 (Nat.le_of_ble_eq_true rfl) (Nat.le_of_ble_eq_true rfl) f4_a82 rfl hP hD hS (fun u H locs hP hD hS => ?_)
  refine lv_bipush (v := (-5)) hx hb dL_four_794 (by decide) ?_
  refine lv_icmp_ne (tgt := 935) hx hb dL_four_796 (by decide) (fun q => absurd rfl q) (fun _ => ?_)
  refine lv_aload_n hx hb dL_four_799 rfl (lv_at hl 0 rfl) ?_
  refine lv_iconst (v := 0) hx hb dL_four_800 (by decide) ?_
  refine lv_bipush (v := (-5)) hx hb dL_four_801 (by decide) ?_
  refine lo_call (As := [.int 0, .int (-5)]) (v := 1) (σ' := f4_s20) hB (lo_c_print l D yI yC yO h Ad f4_s19 u 0 (-5) _ f4_z83) (kw_four_print hts) rfl hl.1 rfl (Nat.le_of_ble_eq_true rfl) dL_four_803 (Nat.le_of_ble_eq_true rfl) (Nat.le_of_ble_eq_true rfl) f4_a83 rfl hP hD hS (fun u H locs hP hD hS => ?_)
  refine lv_iconst (v := 1) hx hb dL_four_806 (by decide) ?_
  refine lv_icmp_ne (tgt := 935) hx hb dL_four_807 (by decide) (fun q => absurd rfl q) (fun _ => ?_)
  refine lv_aload_n hx hb dL_four_810 rfl (lv_at hl 0 rfl) ?_
  refine lv_iconst (v := 0) hx hb dL_four_811 (by decide) ?_
  refine lv_bipush (v := (-5)) hx hb dL_four_812 (by decide) ?_
  refine lo_call (As := [.int 0, .int (-5)]) (v := (-5)) (σ' := f4_s21) hB (lo_c_print l D yI yC yO h Ad f4_s20 u 0 (-5) _ f4_z84) (kw_four_print hts) rfl hl.1 rfl (Nat.le_of_ble_eq_true rfl) dL_four_814 (Nat.le_of_ble_eq_true rfl) (Nat.le_of_ble_eq_true rfl) f4_a84 rfl hP hD hS (fun u H locs hP hD hS => ?_)
  refine lv_bipush (v := (-5)) hx hb dL_four_817 (by decide) ?_
  refine lv_icmp_ne (tgt := 935) hx hb dL_four_819 (by decide) (fun q => absurd rfl q) (fun _ => ?_)
  exact kk _ _ _ ⟨u, hP, hD, hS⟩ hl

set_option maxHeartbeats 4000000 in
set_option maxRecDepth 100000 in
theorem four_8 {p : Program} {l : Launch} {e : Env} {s : State} {m : MethodId} {args : Array Value} {below : List Frame} {meth : Method} {c : Code} {Q : State → Prop} {A : Nat → Prop} {D : va_G} {yI yC yO : ClassId} (hB : lo_B p s m args c cL_four 1 wsL_four D yI yC yO A) {h : Nat} {Ad : Nat → Nat → Nat} (kk : ∀ (H : Heap) (locs : List Loc) (ls : Array Slot), lo_I D yI yC yO A s.heap h Ad f4_s22 H locs → lv_has ls 1 [(0, .ref h)] → W p l e lo_rm_four s m args below meth c H locs 143 3511 Q (F0 m 937 ls [])) :
    ∀ (H : Heap) (locs : List Loc) (ls : Array Slot), lo_I D yI yC yO A s.heap h Ad f4_s21 H locs → lv_has ls 1 [(0, .ref h)] → W p l e lo_rm_four s m args below meth c H locs 143 3511 Q (F0 m 822 ls []) := by
  intro H locs ls hI hl
  obtain ⟨u, hP, hD, hS⟩ := hI
  have hx := hB.1.1
  have hb := hB.1.2.1
  have hown := hB.1.2.2.2.1
  have hts := hB.1.2.2.2.2
  refine lv_aload_n hx hb dL_four_822 rfl (lv_at hl 0 rfl) ?_
  refine lv_iconst (v := 0) hx hb dL_four_823 (by decide) ?_
  refine lv_iconst (v := 1) hx hb dL_four_824 (by decide) ?_
  refine lo_call (As := [.int 0, .int 1]) (v := 1) (σ' := f4_s21) hB (lo_c_picture l D yI yC yO h Ad f4_s21 u 0 1 _) (kw_four_picture hts) rfl hl.1 rfl (Nat.le_of_ble_eq_true rfl) dL_four_825 (Nat.le_of_ble_eq_true rfl) (Nat.le_of_ble_eq_true rfl) f4_a85 rfl hP hD hS (fun u H locs hP hD hS => ?_)
  refine lv_iconst (v := 1) hx hb dL_four_828 (by decide) ?_
  refine lv_icmp_ne (tgt := 935) hx hb dL_four_829 (by decide) (fun q => absurd rfl q) (fun _ => ?_)
  refine lv_aload_n hx hb dL_four_832 rfl (lv_at hl 0 rfl) ?_
  refine lo_call (As := []) (v := 2) (σ' := f4_s22) hB (lo_c_shoot l D yI yC yO h Ad f4_s21 u _ f4_z86) (kw_four_shoot hts) rfl hl.1 rfl (Nat.le_of_ble_eq_true rfl) dL_four_833 (Nat.le_of_ble_eq_true rfl) (Nat.le_of_ble_eq_true rfl) f4_a86 rfl hP hD hS (fun u H locs hP hD hS => ?_)
  refine lv_iconst (v := 2) hx hb dL_four_836 (by decide) ?_
  refine lv_icmp_ne (tgt := 935) hx hb dL_four_837 (by decide) (fun q => absurd rfl q) (fun _ => ?_)
  refine lv_aload_n hx hb dL_four_840 rfl (lv_at hl 0 rfl) ?_
  refine lv_iconst (v := 5) hx hb dL_four_841 (by decide) ?_
  refine lv_iconst (v := 1) hx hb dL_four_842 (by decide) ?_
  refine lo_call (As := [.int 5, .int 1]) (v := 6) (σ' := f4_s22) hB (lo_c_picture l D yI yC yO h Ad f4_s22 u 5 1 _) (kw_four_picture hts) rfl hl.1 rfl (Nat.le_of_ble_eq_true rfl) dL_four_843 (Nat.le_of_ble_eq_true rfl) (Nat.le_of_ble_eq_true rfl) f4_a87 rfl hP hD hS (fun u H locs hP hD hS => ?_)
  refine lv_bipush (v := 6) hx hb dL_four_846 (by decide) ?_
  refine lv_icmp_ne (tgt := 935) hx hb dL_four_848 (by decide) (fun q => absurd rfl q) (fun _ => ?_)
  refine lv_aload_n hx hb dL_four_851 rfl (lv_at hl 0 rfl) ?_
  refine lv_iconst (v := 5) hx hb dL_four_852 (by decide) ?_
  refine lv_iconst (v := 3) hx hb dL_four_853 (by decide) ?_
  refine lo_call (As := [.int 5, .int 3]) (v := 5) (σ' := f4_s22) hB (lo_c_picture l D yI yC yO h Ad f4_s22 u 5 3 _) (kw_four_picture hts) rfl hl.1 rfl (Nat.le_of_ble_eq_true rfl) dL_four_854 (Nat.le_of_ble_eq_true rfl) (Nat.le_of_ble_eq_true rfl) f4_a88 rfl hP hD hS (fun u H locs hP hD hS => ?_)
  refine lv_iconst (v := 5) hx hb dL_four_857 (by decide) ?_
  refine lv_icmp_ne (tgt := 935) hx hb dL_four_858 (by decide) (fun q => absurd rfl q) (fun _ => ?_)
  refine lv_aload_n hx hb dL_four_861 rfl (lv_at hl 0 rfl) ?_
  refine lv_iconst (v := 5) hx hb dL_four_862 (by decide) ?_
  refine lv_iconst (v := 4) hx hb dL_four_863 (by decide) ?_
  refine lo_call (As := [.int 5, .int 4]) (v := 1) (σ' := f4_s22) hB (lo_c_picture l D yI yC yO h Ad f4_s22 u 5 4 _) (kw_four_picture hts) rfl hl.1 rfl (Nat.le_of_ble_eq_true rfl) dL_four_864 (Nat.le_of_ble_eq_true rfl) (Nat.le_of_ble_eq_true rfl) f4_a89 rfl hP hD hS (fun u H locs hP hD hS => ?_)
  refine lv_iconst (v := 1) hx hb dL_four_867 (by decide) ?_
  refine lv_icmp_ne (tgt := 935) hx hb dL_four_868 (by decide) (fun q => absurd rfl q) (fun _ => ?_)
  refine lv_aload_n hx hb dL_four_871 rfl (lv_at hl 0 rfl) ?_
  refine lv_iconst (v := 3) hx hb dL_four_872 (by decide) ?_
  refine lv_iconst (v := 4) hx hb dL_four_873 (by decide) ?_
  refine lo_call (As := [.int 3, .int 4]) (v := 0) (σ' := f4_s22) hB (lo_c_picture l D yI yC yO h Ad f4_s22 u 3 4 _) (kw_four_picture hts) rfl hl.1 rfl (Nat.le_of_ble_eq_true rfl) dL_four_874 (Nat.le_of_ble_eq_true rfl) (Nat.le_of_ble_eq_true rfl) f4_a90 rfl hP hD hS (fun u H locs hP hD hS => ?_)
  refine lv_if_ne (tgt := 935) hx hb dL_four_877 (by decide) (fun q => absurd rfl q) (fun _ => ?_)
  refine lv_aload_n hx hb dL_four_880 rfl (lv_at hl 0 rfl) ?_
  refine lv_iconst (v := 5) hx hb dL_four_881 (by decide) ?_
  refine lv_iconst (v := 2) hx hb dL_four_882 (by decide) ?_
  refine lo_call (As := [.int 5, .int 2]) (v := 2) (σ' := f4_s22) hB (lo_c_page l D yI yC yO h Ad f4_s22 u 5 2 _) (kw_four_page hts) rfl hl.1 rfl (Nat.le_of_ble_eq_true rfl) dL_four_883 (Nat.le_of_ble_eq_true rfl) (Nat.le_of_ble_eq_true rfl) f4_a91 rfl hP hD hS (fun u H locs hP hD hS => ?_)
  refine lv_iconst (v := 2) hx hb dL_four_886 (by decide) ?_
  refine lv_icmp_ne (tgt := 935) hx hb dL_four_887 (by decide) (fun q => absurd rfl q) (fun _ => ?_)
  refine lv_aload_n hx hb dL_four_890 rfl (lv_at hl 0 rfl) ?_
  refine lv_iconst (v := 5) hx hb dL_four_891 (by decide) ?_
  refine lo_call (As := [.int 5]) (v := 2) (σ' := f4_s22) hB (lo_c_count l D yI yC yO h Ad f4_s22 u 5 _) (kw_four_count hts) rfl hl.1 rfl (Nat.le_of_ble_eq_true rfl) dL_four_892 (Nat.le_of_ble_eq_true rfl) (Nat.le_of_ble_eq_true rfl) f4_a92 rfl hP hD hS (fun u H locs hP hD hS => ?_)
  refine lv_iconst (v := 2) hx hb dL_four_895 (by decide) ?_
  refine lv_icmp_ne (tgt := 935) hx hb dL_four_896 (by decide) (fun q => absurd rfl q) (fun _ => ?_)
  refine lv_aload_n hx hb dL_four_899 rfl (lv_at hl 0 rfl) ?_
  refine lv_bipush (v := 6) hx hb dL_four_900 (by decide) ?_
  refine lv_iconst (v := 4) hx hb dL_four_902 (by decide) ?_
  refine lo_call (As := [.int 6, .int 4]) (v := 0) (σ' := f4_s22) hB (lo_c_page l D yI yC yO h Ad f4_s22 u 6 4 _) (kw_four_page hts) rfl hl.1 rfl (Nat.le_of_ble_eq_true rfl) dL_four_903 (Nat.le_of_ble_eq_true rfl) (Nat.le_of_ble_eq_true rfl) f4_a93 rfl hP hD hS (fun u H locs hP hD hS => ?_)
  refine lv_if_ne (tgt := 935) hx hb dL_four_906 (by decide) (fun q => absurd rfl q) (fun _ => ?_)
  refine lv_aload_n hx hb dL_four_909 rfl (lv_at hl 0 rfl) ?_
  refine lv_iconst (v := 0) hx hb dL_four_910 (by decide) ?_
  refine lv_iconst (v := 4) hx hb dL_four_911 (by decide) ?_
  refine lo_call (As := [.int 0, .int 4]) (v := 1) (σ' := f4_s22) hB (lo_c_page l D yI yC yO h Ad f4_s22 u 0 4 _) (kw_four_page hts) rfl hl.1 rfl (Nat.le_of_ble_eq_true rfl) dL_four_912 (Nat.le_of_ble_eq_true rfl) (Nat.le_of_ble_eq_true rfl) f4_a94 rfl hP hD hS (fun u H locs hP hD hS => ?_)
  refine lv_iconst (v := 1) hx hb dL_four_915 (by decide) ?_
  refine lv_icmp_ne (tgt := 935) hx hb dL_four_916 (by decide) (fun q => absurd rfl q) (fun _ => ?_)
  refine lv_aload_n hx hb dL_four_919 rfl (lv_at hl 0 rfl) ?_
  refine lv_iconst (v := 1) hx hb dL_four_920 (by decide) ?_
  refine lv_iconst (v := 4) hx hb dL_four_921 (by decide) ?_
  refine lo_call (As := [.int 1, .int 4]) (v := 0) (σ' := f4_s22) hB (lo_c_page l D yI yC yO h Ad f4_s22 u 1 4 _) (kw_four_page hts) rfl hl.1 rfl (Nat.le_of_ble_eq_true rfl) dL_four_922 (Nat.le_of_ble_eq_true rfl) (Nat.le_of_ble_eq_true rfl) f4_a95 rfl hP hD hS (fun u H locs hP hD hS => ?_)
  refine lv_if_ne (tgt := 935) hx hb dL_four_925 (by decide) (fun q => absurd rfl q) (fun _ => ?_)
  refine lv_aload_n hx hb dL_four_928 rfl (lv_at hl 0 rfl) ?_
  refine lo_calls (X := (1, f4_s22)) (v := 1) (As := [.ref h]) (σ' := f4_s22) hB (lo_c_refused l D yI yC yO h Ad f4_s22 u _ f4_g96 f4_z96) (kw_four_refused hts) rfl hl.1 rfl (Nat.le_of_ble_eq_true rfl) dL_four_929 (Nat.le_of_ble_eq_true rfl) (Nat.le_of_ble_eq_true rfl) rfl rfl hP hD hS (fun u H locs hP hD hS => ?_)
  refine lv_if_ne (tgt := 937) hx hb dL_four_932 (by decide) (fun _ => ?_) (fun q => absurd q (by decide))
  exact kk _ _ _ ⟨u, hP, hD, hS⟩ hl

set_option maxHeartbeats 4000000 in
set_option maxRecDepth 100000 in
theorem four_9 {p : Program} {l : Launch} {e : Env} {s : State} {m : MethodId} {args : Array Value} {below : List Frame} {meth : Method} {c : Code} {Q : State → Prop} {A : Nat → Prop} {D : va_G} {yI yC yO : ClassId} (hB : lo_B p s m args c cL_four 1 wsL_four D yI yC yO A) {h : Nat} {Ad : Nat → Nat → Nat} (kk : ∀ (H : Heap) (locs : List Loc) (ls : Array Slot), lo_I D yI yC yO A s.heap h Ad f4_s28 H locs → lv_has ls 1 [(0, .ref h)] → W p l e lo_rm_four s m args below meth c H locs 143 3511 Q (F0 m 1045 ls [])) :
    ∀ (H : Heap) (locs : List Loc) (ls : Array Slot), lo_I D yI yC yO A s.heap h Ad f4_s22 H locs → lv_has ls 1 [(0, .ref h)] → W p l e lo_rm_four s m args below meth c H locs 143 3511 Q (F0 m 937 ls []) := by
  intro H locs ls hI hl
  obtain ⟨u, hP, hD, hS⟩ := hI
  have hx := hB.1.1
  have hb := hB.1.2.1
  have hown := hB.1.2.2.2.1
  have hts := hB.1.2.2.2.2
  refine lv_aload_n hx hb dL_four_937 rfl (lv_at hl 0 rfl) ?_
  refine lv_iconst (v := 2) hx hb dL_four_938 (by decide) ?_
  refine lv_iconst (v := 0) hx hb dL_four_939 (by decide) ?_
  refine lo_call (As := [.int 2, .int 0]) (v := 1) (σ' := f4_s23) hB (lo_c_set l D yI yC yO h Ad f4_s22 u 2 0 _ f4_z97) (kw_four_set hts) rfl hl.1 rfl (Nat.le_of_ble_eq_true rfl) dL_four_940 (Nat.le_of_ble_eq_true rfl) (Nat.le_of_ble_eq_true rfl) f4_a97 rfl hP hD hS (fun u H locs hP hD hS => ?_)
  refine lv_iconst (v := 1) hx hb dL_four_943 (by decide) ?_
  refine lv_icmp_ne (tgt := 1093) hx hb dL_four_944 (by decide) (fun q => absurd rfl q) (fun _ => ?_)
  refine lv_aload_n hx hb dL_four_947 rfl (lv_at hl 0 rfl) ?_
  refine lv_iconst (v := 0) hx hb dL_four_948 (by decide) ?_
  refine lv_iconst (v := 3) hx hb dL_four_949 (by decide) ?_
  refine lo_call (As := [.int 0, .int 3]) (v := 1) (σ' := f4_s23) hB (lo_c_picture l D yI yC yO h Ad f4_s23 u 0 3 _) (kw_four_picture hts) rfl hl.1 rfl (Nat.le_of_ble_eq_true rfl) dL_four_950 (Nat.le_of_ble_eq_true rfl) (Nat.le_of_ble_eq_true rfl) f4_a98 rfl hP hD hS (fun u H locs hP hD hS => ?_)
  refine lv_iconst (v := 1) hx hb dL_four_953 (by decide) ?_
  refine lv_icmp_ne (tgt := 1093) hx hb dL_four_954 (by decide) (fun q => absurd rfl q) (fun _ => ?_)
  refine lv_aload_n hx hb dL_four_957 rfl (lv_at hl 0 rfl) ?_
  refine lv_iconst (v := 1) hx hb dL_four_958 (by decide) ?_
  refine lv_iconst (v := 3) hx hb dL_four_959 (by decide) ?_
  refine lo_call (As := [.int 1, .int 3]) (v := 1) (σ' := f4_s23) hB (lo_c_page l D yI yC yO h Ad f4_s23 u 1 3 _) (kw_four_page hts) rfl hl.1 rfl (Nat.le_of_ble_eq_true rfl) dL_four_960 (Nat.le_of_ble_eq_true rfl) (Nat.le_of_ble_eq_true rfl) f4_a99 rfl hP hD hS (fun u H locs hP hD hS => ?_)
  refine lv_iconst (v := 1) hx hb dL_four_963 (by decide) ?_
  refine lv_icmp_ne (tgt := 1093) hx hb dL_four_964 (by decide) (fun q => absurd rfl q) (fun _ => ?_)
  refine lv_aload_n hx hb dL_four_967 rfl (lv_at hl 0 rfl) ?_
  refine lv_bipush (v := 15) hx hb dL_four_968 (by decide) ?_
  refine lo_call (As := [.int 15]) (v := 4) (σ' := f4_s23) hB (lo_c_count l D yI yC yO h Ad f4_s23 u 15 _) (kw_four_count hts) rfl hl.1 rfl (Nat.le_of_ble_eq_true rfl) dL_four_970 (Nat.le_of_ble_eq_true rfl) (Nat.le_of_ble_eq_true rfl) f4_a100 rfl hP hD hS (fun u H locs hP hD hS => ?_)
  refine lv_iconst (v := 4) hx hb dL_four_973 (by decide) ?_
  refine lv_icmp_ne (tgt := 1093) hx hb dL_four_974 (by decide) (fun q => absurd rfl q) (fun _ => ?_)
  refine lv_aload_n hx hb dL_four_977 rfl (lv_at hl 0 rfl) ?_
  refine lo_call (As := []) (v := 3) (σ' := f4_s24) hB (lo_c_undo l D yI yC yO h Ad f4_s23 u _ f4_z101) (kw_four_undo hts) rfl hl.1 rfl (Nat.le_of_ble_eq_true rfl) dL_four_978 (Nat.le_of_ble_eq_true rfl) (Nat.le_of_ble_eq_true rfl) f4_a101 rfl hP hD hS (fun u H locs hP hD hS => ?_)
  refine lv_iconst (v := 3) hx hb dL_four_981 (by decide) ?_
  refine lv_icmp_ne (tgt := 1093) hx hb dL_four_982 (by decide) (fun q => absurd rfl q) (fun _ => ?_)
  refine lv_aload_n hx hb dL_four_985 rfl (lv_at hl 0 rfl) ?_
  refine lv_iconst (v := 0) hx hb dL_four_986 (by decide) ?_
  refine lv_iconst (v := 3) hx hb dL_four_987 (by decide) ?_
  refine lo_call (As := [.int 0, .int 3]) (v := 0) (σ' := f4_s24) hB (lo_c_picture l D yI yC yO h Ad f4_s24 u 0 3 _) (kw_four_picture hts) rfl hl.1 rfl (Nat.le_of_ble_eq_true rfl) dL_four_988 (Nat.le_of_ble_eq_true rfl) (Nat.le_of_ble_eq_true rfl) f4_a102 rfl hP hD hS (fun u H locs hP hD hS => ?_)
  refine lv_if_ne (tgt := 1093) hx hb dL_four_991 (by decide) (fun q => absurd rfl q) (fun _ => ?_)
  refine lv_aload_n hx hb dL_four_994 rfl (lv_at hl 0 rfl) ?_
  refine lo_call (As := []) (v := 2) (σ' := f4_s25) hB (lo_c_undo l D yI yC yO h Ad f4_s24 u _ f4_z103) (kw_four_undo hts) rfl hl.1 rfl (Nat.le_of_ble_eq_true rfl) dL_four_995 (Nat.le_of_ble_eq_true rfl) (Nat.le_of_ble_eq_true rfl) f4_a103 rfl hP hD hS (fun u H locs hP hD hS => ?_)
  refine lv_iconst (v := 2) hx hb dL_four_998 (by decide) ?_
  refine lv_icmp_ne (tgt := 1093) hx hb dL_four_999 (by decide) (fun q => absurd rfl q) (fun _ => ?_)
  refine lv_aload_n hx hb dL_four_1002 rfl (lv_at hl 0 rfl) ?_
  refine lv_iconst (v := 2) hx hb dL_four_1003 (by decide) ?_
  refine lo_call (As := [.int 2]) (v := 5) (σ' := f4_s25) hB (lo_c_count l D yI yC yO h Ad f4_s25 u 2 _) (kw_four_count hts) rfl hl.1 rfl (Nat.le_of_ble_eq_true rfl) dL_four_1004 (Nat.le_of_ble_eq_true rfl) (Nat.le_of_ble_eq_true rfl) f4_a104 rfl hP hD hS (fun u H locs hP hD hS => ?_)
  refine lv_iconst (v := 5) hx hb dL_four_1007 (by decide) ?_
  refine lv_icmp_ne (tgt := 1093) hx hb dL_four_1008 (by decide) (fun q => absurd rfl q) (fun _ => ?_)
  refine lv_aload_n hx hb dL_four_1011 rfl (lv_at hl 0 rfl) ?_
  refine lo_call (As := []) (v := 1) (σ' := f4_s26) hB (lo_c_undo l D yI yC yO h Ad f4_s25 u _ f4_z105) (kw_four_undo hts) rfl hl.1 rfl (Nat.le_of_ble_eq_true rfl) dL_four_1012 (Nat.le_of_ble_eq_true rfl) (Nat.le_of_ble_eq_true rfl) f4_a105 rfl hP hD hS (fun u H locs hP hD hS => ?_)
  refine lv_iconst (v := 1) hx hb dL_four_1015 (by decide) ?_
  refine lv_icmp_ne (tgt := 1093) hx hb dL_four_1016 (by decide) (fun q => absurd rfl q) (fun _ => ?_)
  refine lv_aload_n hx hb dL_four_1019 rfl (lv_at hl 0 rfl) ?_
  refine lv_iconst (v := 0) hx hb dL_four_1020 (by decide) ?_
  refine lv_iconst (v := 0) hx hb dL_four_1021 (by decide) ?_
  refine lo_call (As := [.int 0, .int 0]) (v := 1) (σ' := f4_s26) hB (lo_c_page l D yI yC yO h Ad f4_s26 u 0 0 _) (kw_four_page hts) rfl hl.1 rfl (Nat.le_of_ble_eq_true rfl) dL_four_1022 (Nat.le_of_ble_eq_true rfl) (Nat.le_of_ble_eq_true rfl) f4_a106 rfl hP hD hS (fun u H locs hP hD hS => ?_)
  refine lv_iconst (v := 1) hx hb dL_four_1025 (by decide) ?_
  refine lv_icmp_ne (tgt := 1093) hx hb dL_four_1026 (by decide) (fun q => absurd rfl q) (fun _ => ?_)
  refine lv_aload_n hx hb dL_four_1029 rfl (lv_at hl 0 rfl) ?_
  refine lo_call (As := []) (v := 5) (σ' := f4_s27) hB (lo_c_keep l D yI yC yO h Ad f4_s26 u _) (kw_four_keep hts) rfl hl.1 rfl (Nat.le_of_ble_eq_true rfl) dL_four_1030 (Nat.le_of_ble_eq_true rfl) (Nat.le_of_ble_eq_true rfl) f4_a107 rfl hP hD hS (fun u H locs hP hD hS => ?_)
  refine lv_iconst (v := 5) hx hb dL_four_1033 (by decide) ?_
  refine lv_icmp_ne (tgt := 1093) hx hb dL_four_1034 (by decide) (fun q => absurd rfl q) (fun _ => ?_)
  refine lv_aload_n hx hb dL_four_1037 rfl (lv_at hl 0 rfl) ?_
  refine lo_call (As := []) (v := 4) (σ' := f4_s28) hB (lo_c_takeBook l D yI yC yO h Ad f4_s27 u _ f4_z108) (kw_four_takeBook hts) rfl hl.1 rfl (Nat.le_of_ble_eq_true rfl) dL_four_1038 (Nat.le_of_ble_eq_true rfl) (Nat.le_of_ble_eq_true rfl) f4_a108 rfl hP hD hS (fun u H locs hP hD hS => ?_)
  refine lv_iconst (v := 4) hx hb dL_four_1041 (by decide) ?_
  refine lv_icmp_ne (tgt := 1093) hx hb dL_four_1042 (by decide) (fun q => absurd rfl q) (fun _ => ?_)
  exact kk _ _ _ ⟨u, hP, hD, hS⟩ hl

set_option maxHeartbeats 4000000 in
set_option maxRecDepth 100000 in
theorem four_10 {p : Program} {l : Launch} {e : Env} {s : State} {m : MethodId} {args : Array Value} {below : List Frame} {meth : Method} {c : Code} {Q : State → Prop} {A : Nat → Prop} {D : va_G} {yI yC yO : ClassId} (hB : lo_B p s m args c cL_four 1 wsL_four D yI yC yO A) {h : Nat} {Ad : Nat → Nat → Nat} (kk : ∀ (H : Heap) (locs : List Loc) (ls : Array Slot), lo_I D yI yC yO A s.heap h Ad f4_s29 H locs → lv_has ls 1 [(0, .ref h)] → W p l e lo_rm_four s m args below meth c H locs 143 3511 Q (F0 m 1094 ls [.int 1])) :
    ∀ (H : Heap) (locs : List Loc) (ls : Array Slot), lo_I D yI yC yO A s.heap h Ad f4_s28 H locs → lv_has ls 1 [(0, .ref h)] → W p l e lo_rm_four s m args below meth c H locs 143 3511 Q (F0 m 1045 ls []) := by
  intro H locs ls hI hl
  obtain ⟨u, hP, hD, hS⟩ := hI
  have hx := hB.1.1
  have hb := hB.1.2.1
  have hown := hB.1.2.2.2.1
  have hts := hB.1.2.2.2.2
  refine lv_aload_n hx hb dL_four_1045 rfl (lv_at hl 0 rfl) ?_
  refine lv_iconst (v := 2) hx hb dL_four_1046 (by decide) ?_
  refine lo_call (As := [.int 2]) (v := 0) (σ' := f4_s28) hB (lo_c_count l D yI yC yO h Ad f4_s28 u 2 _) (kw_four_count hts) rfl hl.1 rfl (Nat.le_of_ble_eq_true rfl) dL_four_1047 (Nat.le_of_ble_eq_true rfl) (Nat.le_of_ble_eq_true rfl) f4_a109 rfl hP hD hS (fun u H locs hP hD hS => ?_)
  refine lv_if_ne (tgt := 1093) hx hb dL_four_1050 (by decide) (fun q => absurd rfl q) (fun _ => ?_)
  refine lv_aload_n hx hb dL_four_1053 rfl (lv_at hl 0 rfl) ?_
  refine lv_bipush (v := 14) hx hb dL_four_1054 (by decide) ?_
  refine lo_call (As := [.int 14]) (v := 0) (σ' := f4_s28) hB (lo_c_count l D yI yC yO h Ad f4_s28 u 14 _) (kw_four_count hts) rfl hl.1 rfl (Nat.le_of_ble_eq_true rfl) dL_four_1056 (Nat.le_of_ble_eq_true rfl) (Nat.le_of_ble_eq_true rfl) f4_a110 rfl hP hD hS (fun u H locs hP hD hS => ?_)
  refine lv_if_ne (tgt := 1093) hx hb dL_four_1059 (by decide) (fun q => absurd rfl q) (fun _ => ?_)
  refine lv_aload_n hx hb dL_four_1062 rfl (lv_at hl 0 rfl) ?_
  refine lv_bipush (v := 7) hx hb dL_four_1063 (by decide) ?_
  refine lo_call (As := [.int 7]) (v := 0) (σ' := f4_s28) hB (lo_c_count l D yI yC yO h Ad f4_s28 u 7 _) (kw_four_count hts) rfl hl.1 rfl (Nat.le_of_ble_eq_true rfl) dL_four_1065 (Nat.le_of_ble_eq_true rfl) (Nat.le_of_ble_eq_true rfl) f4_a111 rfl hP hD hS (fun u H locs hP hD hS => ?_)
  refine lv_if_ne (tgt := 1093) hx hb dL_four_1068 (by decide) (fun q => absurd rfl q) (fun _ => ?_)
  refine lv_aload_n hx hb dL_four_1071 rfl (lv_at hl 0 rfl) ?_
  refine lo_call (As := []) (v := 5) (σ' := f4_s29) hB (lo_c_restore l D yI yC yO h Ad f4_s28 u _ f4_z112) (kw_four_restore hts) rfl hl.1 rfl (Nat.le_of_ble_eq_true rfl) dL_four_1072 (Nat.le_of_ble_eq_true rfl) (Nat.le_of_ble_eq_true rfl) f4_a112 rfl hP hD hS (fun u H locs hP hD hS => ?_)
  refine lv_iconst (v := 5) hx hb dL_four_1075 (by decide) ?_
  refine lv_icmp_ne (tgt := 1093) hx hb dL_four_1076 (by decide) (fun q => absurd rfl q) (fun _ => ?_)
  refine lv_aload_n hx hb dL_four_1079 rfl (lv_at hl 0 rfl) ?_
  refine lv_bipush (v := 14) hx hb dL_four_1080 (by decide) ?_
  refine lo_call (As := [.int 14]) (v := 4) (σ' := f4_s29) hB (lo_c_count l D yI yC yO h Ad f4_s29 u 14 _) (kw_four_count hts) rfl hl.1 rfl (Nat.le_of_ble_eq_true rfl) dL_four_1082 (Nat.le_of_ble_eq_true rfl) (Nat.le_of_ble_eq_true rfl) f4_a113 rfl hP hD hS (fun u H locs hP hD hS => ?_)
  refine lv_iconst (v := 4) hx hb dL_four_1085 (by decide) ?_
  refine lv_icmp_ne (tgt := 1093) hx hb dL_four_1086 (by decide) (fun q => absurd rfl q) (fun _ => ?_)
  refine lv_iconst (v := 1) hx hb dL_four_1089 (by decide) ?_
  refine lv_goto (tgt := 1094) hx hb dL_four_1090 (by decide) ?_
  exact kk _ _ _ ⟨u, hP, hD, hS⟩ hl

end LOH
set_option maxHeartbeats 4000000 in
set_option maxRecDepth 100000 in
theorem lo_c_four (l : Launch) (D : va_G) (yI yC yO : ClassId) (sz : Nat) : Met l yL_four wsL_four lo_rm_four (va_Pc [] (lo_M D yI yC yO ([] : va_W) sz)) (lo_Q D 1 (fun (_ : Unit) => ([] : va_W)) (va_A ([] : va_W) sz)) 143 3511 (va_A ([] : va_W) sz) := by
  refine Met.ofW (cc := cL_four) (maxL := 1) (ret := (some .boolean)) (by decide) rfl ?_
  intro p e s m args below meth c s₁ B0 hml hv
  obtain ⟨rfl, hM⟩ := hv
  have hB : lo_B p s m _ c cL_four 1 wsL_four D yI yC yO (va_A ([] : va_W) sz) := lo_B.of B0.exec B0.bytes hml (findClass_of_methodNamed B0.named) (atoms_spec (ws := wsL_four) B0.pre) hM
  obtain ⟨hP, hD, hS⟩ := hM.S
  have hx := hB.1.1
  have hb := hB.1.2.1
  have hown := hB.1.2.2.2.1
  have hts := hB.1.2.2.2.2
  have hret := B0.returns
  have hlocks := B0.notSynchronized
  have hl := lv_entry ([] : List Value) (n := 1) (Nat.le_of_ble_eq_true rfl)
  rw [lg_entry_eq]
  generalize (lg_sl ([] : List Value) ++ List.replicate (1 - (lg_sl ([] : List Value)).length) Slot.unset).toArray = ls at hl ⊢
  have hl : lv_has ls 1 [] := hl
  generalize hAe : va_A ([] : va_W) sz = A at hB hD hS ⊢
  refine lo_new (wr := []) (rest := []) hB ix_four (by decide +kernel) (by decide +kernel) (by decide +kernel) (by decide +kernel) (by decide +kernel) gL_four_X7_init ⟨Nat.le_of_ble_eq_true rfl, Nat.le_of_ble_eq_true rfl⟩ hl.1 (Nat.le_of_ble_eq_true rfl) dL_four_0 dL_four_3 dL_four_4 (Nat.le_of_ble_eq_true rfl) (Nat.le_of_ble_eq_true rfl) hP hD hS (fun h Ad u H locs hP hD hS => ?_)
  have hP : va_P D vwCl (lo_O yI yC yO h Ad lo_t0 u) H := hP
  have hD : va_D A (lo_O yI yC yO h Ad lo_t0 u) := hD
  refine lv_astore_n (lv' := [(0, .ref h)]) hx hb dL_four_7 rfl hl (by decide) rfl (fun ls hl => ?_)
  refine four_1 hB (fun H locs ls hI hl => ?_) _ _ _ ⟨u, hP, hD, hS⟩ hl
  refine four_2 hB (fun H locs ls hI hl => ?_) _ _ _ hI hl
  refine four_3 hB (fun H locs ls hI hl => ?_) _ _ _ hI hl
  refine four_4 hB (fun H locs ls hI hl => ?_) _ _ _ hI hl
  refine four_5 hB (fun H locs ls hI hl => ?_) _ _ _ hI hl
  refine four_6 hB (fun H locs ls hI hl => ?_) _ _ _ hI hl
  refine four_7 hB (fun H locs ls hI hl => ?_) _ _ _ hI hl
  refine four_8 hB (fun H locs ls hI hl => ?_) _ _ _ hI hl
  refine four_9 hB (fun H locs ls hI hl => ?_) _ _ _ hI hl
  refine four_10 hB (fun H locs ls hI hl => ?_) _ _ _ hI hl
  obtain ⟨u, hP, hD, hS⟩ := hI
  exact W.zret (v := 1) hx hb hret lt_z1 (fun t ht hW => ⟨⟨_, (), rfl, rfl, lo_P0, lo_D0⟩, hS.F ht⟩) hS.2.2 dL_four_1094

