abbrev lo_rm_scans : Room := { frames := 9, cells := 429, slots := 10533, locals := 270 }
theorem kw_scans_layBook {args : Array Value} {s : State} (hts : ∀ w ∈ wsL_scans, w.before args s = true) : CallW lo_rm_scans s args RL RX7 33 yX7_layBook cX7_layBook 3 (some .int) wsX7_layBook ({ frames := 5, cells := 0, slots := 0, locals := 150 }) 0 0 2 := cwV 2 hts gL_scans_X7_layBook rfl rfl rfl (by decide +kernel) ⟨Nat.le_of_ble_eq_true rfl, Nat.le_of_ble_eq_true rfl⟩
theorem kw_scans_leaf {args : Array Value} {s : State} (hts : ∀ w ∈ wsL_scans, w.before args s = true) : CallW lo_rm_scans s args RL RX7 19 yX7_leaf cX7_leaf 3 (some .int) wsX7_leaf ({ frames := 2, cells := 0, slots := 0, locals := 60 }) 0 0 2 := cwV 2 hts gL_scans_X7_leaf rfl rfl rfl (by decide +kernel) ⟨Nat.le_of_ble_eq_true rfl, Nat.le_of_ble_eq_true rfl⟩
theorem kw_scans_page {args : Array Value} {s : State} (hts : ∀ w ∈ wsL_scans, w.before args s = true) : CallW lo_rm_scans s args RL RX7 23 yX7_page cX7_page 3 (some .int) wsX7_page ({ frames := 5, cells := 0, slots := 0, locals := 150 }) 0 0 2 := cwV 2 hts gL_scans_X7_page rfl rfl rfl (by decide +kernel) ⟨Nat.le_of_ble_eq_true rfl, Nat.le_of_ble_eq_true rfl⟩
theorem kw_scans_scan {args : Array Value} {s : State} (hts : ∀ w ∈ wsL_scans, w.before args s = true) : CallW lo_rm_scans s args RL RX7 41 yX7_scan cX7_scan 3 (some .int) wsX7_scan ({ frames := 6, cells := 0, slots := 0, locals := 180 }) 0 0 1 := cwV 1 hts gL_scans_X7_scan rfl rfl rfl (by decide +kernel) ⟨Nat.le_of_ble_eq_true rfl, Nat.le_of_ble_eq_true rfl⟩
theorem kw_scans_count {args : Array Value} {s : State} (hts : ∀ w ∈ wsL_scans, w.before args s = true) : CallW lo_rm_scans s args RL RX7 13 yX7_count cX7_count 2 (some .int) wsX7_count ({ frames := 6, cells := 0, slots := 0, locals := 180 }) 0 0 1 := cwV 1 hts gL_scans_X7_count rfl rfl rfl (by decide +kernel) ⟨Nat.le_of_ble_eq_true rfl, Nat.le_of_ble_eq_true rfl⟩
theorem kw_scans_refused {args : Array Value} {s : State} (hts : ∀ w ∈ wsL_scans, w.before args s = true) : CallB lo_rm_scans s args RL 100 yL_refused cL_refused 4 (some .boolean) wsL_refused lo_rm_refused 0 0 1 ∧ (Cond.static yL_refused).before args s = true := cwS 1 hts gL_scans_L_refused rfl rfl rfl (by decide +kernel) ⟨Nat.le_of_ble_eq_true rfl, Nat.le_of_ble_eq_true rfl⟩
theorem kw_scans_set {args : Array Value} {s : State} (hts : ∀ w ∈ wsL_scans, w.before args s = true) : CallW lo_rm_scans s args RL RX7 50 yX7_set cX7_set 4 (some .int) wsX7_set ({ frames := 5, cells := 0, slots := 0, locals := 150 }) 0 0 2 := cwV 2 hts gL_scans_X7_set rfl rfl rfl (by decide +kernel) ⟨Nat.le_of_ble_eq_true rfl, Nat.le_of_ble_eq_true rfl⟩
theorem kw_scans_setSuction {args : Array Value} {s : State} (hts : ∀ w ∈ wsL_scans, w.before args s = true) : CallW lo_rm_scans s args RL RX7 47 yX7_setSuction cX7_setSuction 3 (some .int) wsX7_setSuction ({ frames := 5, cells := 0, slots := 0, locals := 150 }) 0 0 1 := cwV 1 hts gL_scans_X7_setSuction rfl rfl rfl (by decide +kernel) ⟨Nat.le_of_ble_eq_true rfl, Nat.le_of_ble_eq_true rfl⟩
theorem kw_scans_types {args : Array Value} {s : State} (hts : ∀ w ∈ wsL_scans, w.before args s = true) : CallB lo_rm_scans s args RL 91 yL_types cL_types 6 (some .boolean) wsL_types lo_rm_types 0 0 2 ∧ (Cond.static yL_types).before args s = true := cwS 2 hts gL_scans_L_types rfl rfl rfl (by decide +kernel) ⟨Nat.le_of_ble_eq_true rfl, Nat.le_of_ble_eq_true rfl⟩
theorem kw_scans_takeBook {args : Array Value} {s : State} (hts : ∀ w ∈ wsL_scans, w.before args s = true) : CallW lo_rm_scans s args RL RX7 97 yX7_takeBook cX7_takeBook 2 (some .int) wsX7_takeBook ({ frames := 5, cells := 0, slots := 0, locals := 150 }) 0 0 0 := cwV 0 hts gL_scans_X7_takeBook rfl rfl rfl (by decide +kernel) ⟨Nat.le_of_ble_eq_true rfl, Nat.le_of_ble_eq_true rfl⟩
theorem kw_scans_turn {args : Array Value} {s : State} (hts : ∀ w ∈ wsL_scans, w.before args s = true) : CallW lo_rm_scans s args RL RX7 104 yX7_turn cX7_turn 1 (some .int) wsX7_turn ({ frames := 5, cells := 0, slots := 0, locals := 150 }) 0 0 0 := cwV 0 hts gL_scans_X7_turn rfl rfl rfl (by decide +kernel) ⟨Nat.le_of_ble_eq_true rfl, Nat.le_of_ble_eq_true rfl⟩
theorem kw_scans_would {args : Array Value} {s : State} (hts : ∀ w ∈ wsL_scans, w.before args s = true) : CallW lo_rm_scans s args RL RX7 56 yX7_would cX7_would 2 (some .int) wsX7_would ({ frames := 3, cells := 0, slots := 0, locals := 90 }) 0 0 1 := cwV 1 hts gL_scans_X7_would rfl rfl rfl (by decide +kernel) ⟨Nat.le_of_ble_eq_true rfl, Nat.le_of_ble_eq_true rfl⟩
theorem kw_scans_clearText {args : Array Value} {s : State} (hts : ∀ w ∈ wsL_scans, w.before args s = true) : CallW lo_rm_scans s args RL RX7 116 yX7_clearText cX7_clearText 2 (some .int) wsX7_clearText ({ frames := 0, cells := 0, slots := 0, locals := 0 }) 0 0 0 := cwV 0 hts gL_scans_X7_clearText rfl rfl rfl (by decide +kernel) ⟨Nat.le_of_ble_eq_true rfl, Nat.le_of_ble_eq_true rfl⟩
theorem kw_scans_print {args : Array Value} {s : State} (hts : ∀ w ∈ wsL_scans, w.before args s = true) : CallW lo_rm_scans s args RL RX7 38 yX7_print cX7_print 4 (some .int) wsX7_print ({ frames := 5, cells := 0, slots := 0, locals := 150 }) 0 0 2 := cwV 2 hts gL_scans_X7_print rfl rfl rfl (by decide +kernel) ⟨Nat.le_of_ble_eq_true rfl, Nat.le_of_ble_eq_true rfl⟩
theorem kw_scans_shoot {args : Array Value} {s : State} (hts : ∀ w ∈ wsL_scans, w.before args s = true) : CallW lo_rm_scans s args RL RX7 83 yX7_shoot cX7_shoot 1 (some .int) wsX7_shoot ({ frames := 5, cells := 0, slots := 0, locals := 150 }) 0 0 0 := cwV 0 hts gL_scans_X7_shoot rfl rfl rfl (by decide +kernel) ⟨Nat.le_of_ble_eq_true rfl, Nat.le_of_ble_eq_true rfl⟩
theorem kw_scans_picture {args : Array Value} {s : State} (hts : ∀ w ∈ wsL_scans, w.before args s = true) : CallW lo_rm_scans s args RL RX7 26 yX7_picture cX7_picture 4 (some .int) wsX7_picture ({ frames := 5, cells := 0, slots := 0, locals := 150 }) 0 0 2 := cwV 2 hts gL_scans_X7_picture rfl rfl rfl (by decide +kernel) ⟨Nat.le_of_ble_eq_true rfl, Nat.le_of_ble_eq_true rfl⟩
theorem kw_scans_throwAway {args : Array Value} {s : State} (hts : ∀ w ∈ wsL_scans, w.before args s = true) : CallW lo_rm_scans s args RL RX7 44 yX7_throwAway cX7_throwAway 2 (some .int) wsX7_throwAway ({ frames := 5, cells := 0, slots := 0, locals := 150 }) 0 0 1 := cwV 1 hts gL_scans_X7_throwAway rfl rfl rfl (by decide +kernel) ⟨Nat.le_of_ble_eq_true rfl, Nat.le_of_ble_eq_true rfl⟩
theorem ix_scans : ∀ w ∈ wsX70, w ∈ wsL_scans := by decide +kernel
section LOI
set_option maxHeartbeats 4000000 in
set_option maxRecDepth 100000 in
theorem scans_o1 {p : Program} {l : Launch} {e : Env} {s : State} {m : MethodId} {args : Array Value} {below : List Frame} {meth : Method} {c : Code} {Q : State → Prop} {A : Nat → Prop} {D : va_G} {yI yC yO : ClassId} (hB : lo_B p s m args c cL_scans 4 wsL_scans D yI yC yO A) {h : Nat} {Ad : Nat → Nat → Nat} (kk : ∀ (H : Heap) (locs : List Loc) (ls : Array Slot), lo_I D yI yC yO A s.heap h Ad sc_s2 H locs → lv_has ls 4 [(0, .ref h)] → W p l e lo_rm_scans s m args below meth c H locs 143 3511 Q (F0 m 132 ls [])) :
    ∀ (H : Heap) (locs : List Loc) (ls : Array Slot), lo_I D yI yC yO A s.heap h Ad lo_t0 H locs → lv_has ls 4 [(0, .ref h)] → W p l e lo_rm_scans s m args below meth c H locs 143 3511 Q (F0 m 8 ls []) := by
  intro H locs ls hI hl
  obtain ⟨u, hP, hD, hS⟩ := hI
  have hx := hB.1.1
  have hb := hB.1.2.1
  have hown := hB.1.2.2.2.1
  have hts := hB.1.2.2.2.2
  refine lv_aload_n hx hb dL_scans_8 rfl (lv_at hl 0 rfl) ?_
  refine lv_iconst (v := 5) hx hb dL_scans_9 (by decide) ?_
  refine lv_iconst (v := 0) hx hb dL_scans_10 (by decide) ?_
  refine lo_call (As := [.int 5, .int 0]) (v := 15) (σ' := sc_s1) hB (lo_c_layBook l D yI yC yO h Ad lo_t0 u 5 0 _ sc_z1) (kw_scans_layBook hts) rfl hl.1 rfl (Nat.le_of_ble_eq_true rfl) dL_scans_11 (Nat.le_of_ble_eq_true rfl) (Nat.le_of_ble_eq_true rfl) sc_a1 rfl hP hD hS (fun u H locs hP hD hS => ?_)
  refine lv_bipush (v := 15) hx hb dL_scans_14 (by decide) ?_
  refine lv_icmp_ne (tgt := 229) hx hb dL_scans_16 (by decide) (fun q => absurd rfl q) (fun _ => ?_)
  refine lv_aload_n hx hb dL_scans_19 rfl (lv_at hl 0 rfl) ?_
  refine lv_iconst (v := 0) hx hb dL_scans_20 (by decide) ?_
  refine lv_iconst (v := 0) hx hb dL_scans_21 (by decide) ?_
  refine lo_call (As := [.int 0, .int 0]) (v := 4) (σ' := sc_s1) hB (lo_c_leaf l D yI yC yO h Ad sc_s1 u 0 0 _) (kw_scans_leaf hts) rfl hl.1 rfl (Nat.le_of_ble_eq_true rfl) dL_scans_22 (Nat.le_of_ble_eq_true rfl) (Nat.le_of_ble_eq_true rfl) sc_a2 rfl hP hD hS (fun u H locs hP hD hS => ?_)
  refine lv_iconst (v := 4) hx hb dL_scans_25 (by decide) ?_
  refine lv_icmp_ne (tgt := 229) hx hb dL_scans_26 (by decide) (fun q => absurd rfl q) (fun _ => ?_)
  refine lv_aload_n hx hb dL_scans_29 rfl (lv_at hl 0 rfl) ?_
  refine lv_iconst (v := 0) hx hb dL_scans_30 (by decide) ?_
  refine lv_iconst (v := 1) hx hb dL_scans_31 (by decide) ?_
  refine lo_call (As := [.int 0, .int 1]) (v := 6) (σ' := sc_s1) hB (lo_c_leaf l D yI yC yO h Ad sc_s1 u 0 1 _) (kw_scans_leaf hts) rfl hl.1 rfl (Nat.le_of_ble_eq_true rfl) dL_scans_32 (Nat.le_of_ble_eq_true rfl) (Nat.le_of_ble_eq_true rfl) sc_a3 rfl hP hD hS (fun u H locs hP hD hS => ?_)
  refine lv_bipush (v := 6) hx hb dL_scans_35 (by decide) ?_
  refine lv_icmp_ne (tgt := 229) hx hb dL_scans_37 (by decide) (fun q => absurd rfl q) (fun _ => ?_)
  refine lv_aload_n hx hb dL_scans_40 rfl (lv_at hl 0 rfl) ?_
  refine lv_iconst (v := 1) hx hb dL_scans_41 (by decide) ?_
  refine lv_iconst (v := 1) hx hb dL_scans_42 (by decide) ?_
  refine lo_call (As := [.int 1, .int 1]) (v := 8) (σ' := sc_s1) hB (lo_c_leaf l D yI yC yO h Ad sc_s1 u 1 1 _) (kw_scans_leaf hts) rfl hl.1 rfl (Nat.le_of_ble_eq_true rfl) dL_scans_43 (Nat.le_of_ble_eq_true rfl) (Nat.le_of_ble_eq_true rfl) sc_a4 rfl hP hD hS (fun u H locs hP hD hS => ?_)
  refine lv_bipush (v := 8) hx hb dL_scans_46 (by decide) ?_
  refine lv_icmp_ne (tgt := 229) hx hb dL_scans_48 (by decide) (fun q => absurd rfl q) (fun _ => ?_)
  refine lv_aload_n hx hb dL_scans_51 rfl (lv_at hl 0 rfl) ?_
  refine lv_iconst (v := 3) hx hb dL_scans_52 (by decide) ?_
  refine lv_iconst (v := 1) hx hb dL_scans_53 (by decide) ?_
  refine lo_call (As := [.int 3, .int 1]) (v := 0) (σ' := sc_s1) hB (lo_c_leaf l D yI yC yO h Ad sc_s1 u 3 1 _) (kw_scans_leaf hts) rfl hl.1 rfl (Nat.le_of_ble_eq_true rfl) dL_scans_54 (Nat.le_of_ble_eq_true rfl) (Nat.le_of_ble_eq_true rfl) sc_a5 rfl hP hD hS (fun u H locs hP hD hS => ?_)
  refine lv_if_ne (tgt := 229) hx hb dL_scans_57 (by decide) (fun q => absurd rfl q) (fun _ => ?_)
  refine lv_aload_n hx hb dL_scans_60 rfl (lv_at hl 0 rfl) ?_
  refine lv_iconst (v := 4) hx hb dL_scans_61 (by decide) ?_
  refine lv_iconst (v := 0) hx hb dL_scans_62 (by decide) ?_
  refine lo_call (As := [.int 4, .int 0]) (v := 1) (σ' := sc_s1) hB (lo_c_leaf l D yI yC yO h Ad sc_s1 u 4 0 _) (kw_scans_leaf hts) rfl hl.1 rfl (Nat.le_of_ble_eq_true rfl) dL_scans_63 (Nat.le_of_ble_eq_true rfl) (Nat.le_of_ble_eq_true rfl) sc_a6 rfl hP hD hS (fun u H locs hP hD hS => ?_)
  refine lv_iconst (v := 1) hx hb dL_scans_66 (by decide) ?_
  refine lv_icmp_ne (tgt := 229) hx hb dL_scans_67 (by decide) (fun q => absurd rfl q) (fun _ => ?_)
  refine lv_aload_n hx hb dL_scans_70 rfl (lv_at hl 0 rfl) ?_
  refine lv_iconst (v := 0) hx hb dL_scans_71 (by decide) ?_
  refine lv_iconst (v := 0) hx hb dL_scans_72 (by decide) ?_
  refine lo_call (As := [.int 0, .int 0]) (v := (-5)) (σ' := sc_s1) hB (lo_c_page l D yI yC yO h Ad sc_s1 u 0 0 _) (kw_scans_page hts) rfl hl.1 rfl (Nat.le_of_ble_eq_true rfl) dL_scans_73 (Nat.le_of_ble_eq_true rfl) (Nat.le_of_ble_eq_true rfl) sc_a7 rfl hP hD hS (fun u H locs hP hD hS => ?_)
  refine lv_bipush (v := (-5)) hx hb dL_scans_76 (by decide) ?_
  refine lv_icmp_ne (tgt := 229) hx hb dL_scans_78 (by decide) (fun q => absurd rfl q) (fun _ => ?_)
  refine lv_aload_n hx hb dL_scans_81 rfl (lv_at hl 0 rfl) ?_
  refine lv_iconst (v := 1) hx hb dL_scans_82 (by decide) ?_
  refine lv_iconst (v := 0) hx hb dL_scans_83 (by decide) ?_
  refine lo_call (As := [.int 1, .int 0]) (v := (-5)) (σ' := sc_s1) hB (lo_c_page l D yI yC yO h Ad sc_s1 u 1 0 _) (kw_scans_page hts) rfl hl.1 rfl (Nat.le_of_ble_eq_true rfl) dL_scans_84 (Nat.le_of_ble_eq_true rfl) (Nat.le_of_ble_eq_true rfl) sc_a8 rfl hP hD hS (fun u H locs hP hD hS => ?_)
  refine lv_bipush (v := (-5)) hx hb dL_scans_87 (by decide) ?_
  refine lv_icmp_ne (tgt := 229) hx hb dL_scans_89 (by decide) (fun q => absurd rfl q) (fun _ => ?_)
  refine lv_aload_n hx hb dL_scans_92 rfl (lv_at hl 0 rfl) ?_
  refine lv_iconst (v := 2) hx hb dL_scans_93 (by decide) ?_
  refine lv_iconst (v := 0) hx hb dL_scans_94 (by decide) ?_
  refine lo_call (As := [.int 2, .int 0]) (v := 3) (σ' := sc_s1) hB (lo_c_page l D yI yC yO h Ad sc_s1 u 2 0 _) (kw_scans_page hts) rfl hl.1 rfl (Nat.le_of_ble_eq_true rfl) dL_scans_95 (Nat.le_of_ble_eq_true rfl) (Nat.le_of_ble_eq_true rfl) sc_a9 rfl hP hD hS (fun u H locs hP hD hS => ?_)
  refine lv_iconst (v := 3) hx hb dL_scans_98 (by decide) ?_
  refine lv_icmp_ne (tgt := 229) hx hb dL_scans_99 (by decide) (fun q => absurd rfl q) (fun _ => ?_)
  refine lv_aload_n hx hb dL_scans_102 rfl (lv_at hl 0 rfl) ?_
  refine lv_bipush (v := 9) hx hb dL_scans_103 (by decide) ?_
  refine lv_iconst (v := 0) hx hb dL_scans_105 (by decide) ?_
  refine lo_call (As := [.int 9, .int 0]) (v := 10) (σ' := sc_s1) hB (lo_c_page l D yI yC yO h Ad sc_s1 u 9 0 _) (kw_scans_page hts) rfl hl.1 rfl (Nat.le_of_ble_eq_true rfl) dL_scans_106 (Nat.le_of_ble_eq_true rfl) (Nat.le_of_ble_eq_true rfl) sc_a10 rfl hP hD hS (fun u H locs hP hD hS => ?_)
  refine lv_bipush (v := 10) hx hb dL_scans_109 (by decide) ?_
  refine lv_icmp_ne (tgt := 229) hx hb dL_scans_111 (by decide) (fun q => absurd rfl q) (fun _ => ?_)
  refine lv_aload_n hx hb dL_scans_114 rfl (lv_at hl 0 rfl) ?_
  refine lv_iconst (v := 1) hx hb dL_scans_115 (by decide) ?_
  refine lo_call (As := [.int 1]) (v := 1) (σ' := sc_s2) hB (lo_c_scan l D yI yC yO h Ad sc_s1 u 1 _ sc_z11) (kw_scans_scan hts) rfl hl.1 rfl (Nat.le_of_ble_eq_true rfl) dL_scans_116 (Nat.le_of_ble_eq_true rfl) (Nat.le_of_ble_eq_true rfl) sc_a11 rfl hP hD hS (fun u H locs hP hD hS => ?_)
  refine lv_iconst (v := 1) hx hb dL_scans_119 (by decide) ?_
  refine lv_icmp_ne (tgt := 229) hx hb dL_scans_120 (by decide) (fun q => absurd rfl q) (fun _ => ?_)
  refine lv_aload_n hx hb dL_scans_123 rfl (lv_at hl 0 rfl) ?_
  refine lv_iconst (v := 1) hx hb dL_scans_124 (by decide) ?_
  refine lo_call (As := [.int 1]) (v := 2) (σ' := sc_s2) hB (lo_c_count l D yI yC yO h Ad sc_s2 u 1 _) (kw_scans_count hts) rfl hl.1 rfl (Nat.le_of_ble_eq_true rfl) dL_scans_125 (Nat.le_of_ble_eq_true rfl) (Nat.le_of_ble_eq_true rfl) sc_a12 rfl hP hD hS (fun u H locs hP hD hS => ?_)
  refine lv_iconst (v := 2) hx hb dL_scans_128 (by decide) ?_
  refine lv_icmp_ne (tgt := 229) hx hb dL_scans_129 (by decide) (fun q => absurd rfl q) (fun _ => ?_)
  exact kk _ _ _ ⟨u, hP, hD, hS⟩ hl

set_option maxHeartbeats 4000000 in
set_option maxRecDepth 100000 in
theorem scans_o2 {p : Program} {l : Launch} {e : Env} {s : State} {m : MethodId} {args : Array Value} {below : List Frame} {meth : Method} {c : Code} {Q : State → Prop} {A : Nat → Prop} {D : va_G} {yI yC yO : ClassId} (hB : lo_B p s m args c cL_scans 4 wsL_scans D yI yC yO A) {h : Nat} {Ad : Nat → Nat → Nat} (kk : ∀ (H : Heap) (locs : List Loc) (ls : Array Slot), lo_I D yI yC yO A s.heap h Ad sc_s4 H locs → lv_has ls 4 [(0, .ref h)] → W p l e lo_rm_scans s m args below meth c H locs 143 3511 Q (F0 m 231 ls [])) :
    ∀ (H : Heap) (locs : List Loc) (ls : Array Slot), lo_I D yI yC yO A s.heap h Ad sc_s2 H locs → lv_has ls 4 [(0, .ref h)] → W p l e lo_rm_scans s m args below meth c H locs 143 3511 Q (F0 m 132 ls []) := by
  intro H locs ls hI hl
  obtain ⟨u, hP, hD, hS⟩ := hI
  have hx := hB.1.1
  have hb := hB.1.2.1
  have hown := hB.1.2.2.2.1
  have hts := hB.1.2.2.2.2
  refine lv_aload_n hx hb dL_scans_132 rfl (lv_at hl 0 rfl) ?_
  refine lv_bipush (v := 60) hx hb dL_scans_133 (by decide) ?_
  refine lo_call (As := [.int 60]) (v := 7) (σ' := sc_s3) hB (lo_c_scan l D yI yC yO h Ad sc_s2 u 60 _ sc_z13) (kw_scans_scan hts) rfl hl.1 rfl (Nat.le_of_ble_eq_true rfl) dL_scans_135 (Nat.le_of_ble_eq_true rfl) (Nat.le_of_ble_eq_true rfl) sc_a13 rfl hP hD hS (fun u H locs hP hD hS => ?_)
  refine lv_bipush (v := 7) hx hb dL_scans_138 (by decide) ?_
  refine lv_icmp_ne (tgt := 229) hx hb dL_scans_140 (by decide) (fun q => absurd rfl q) (fun _ => ?_)
  refine lv_aload_n hx hb dL_scans_143 rfl (lv_at hl 0 rfl) ?_
  refine lv_iconst (v := 1) hx hb dL_scans_144 (by decide) ?_
  refine lo_call (As := [.int 1]) (v := 5) (σ' := sc_s3) hB (lo_c_count l D yI yC yO h Ad sc_s3 u 1 _) (kw_scans_count hts) rfl hl.1 rfl (Nat.le_of_ble_eq_true rfl) dL_scans_145 (Nat.le_of_ble_eq_true rfl) (Nat.le_of_ble_eq_true rfl) sc_a14 rfl hP hD hS (fun u H locs hP hD hS => ?_)
  refine lv_iconst (v := 5) hx hb dL_scans_148 (by decide) ?_
  refine lv_icmp_ne (tgt := 229) hx hb dL_scans_149 (by decide) (fun q => absurd rfl q) (fun _ => ?_)
  refine lv_aload_n hx hb dL_scans_152 rfl (lv_at hl 0 rfl) ?_
  refine lv_bipush (v := 7) hx hb dL_scans_153 (by decide) ?_
  refine lo_call (As := [.int 7]) (v := 4) (σ' := sc_s3) hB (lo_c_count l D yI yC yO h Ad sc_s3 u 7 _) (kw_scans_count hts) rfl hl.1 rfl (Nat.le_of_ble_eq_true rfl) dL_scans_155 (Nat.le_of_ble_eq_true rfl) (Nat.le_of_ble_eq_true rfl) sc_a15 rfl hP hD hS (fun u H locs hP hD hS => ?_)
  refine lv_iconst (v := 4) hx hb dL_scans_158 (by decide) ?_
  refine lv_icmp_ne (tgt := 229) hx hb dL_scans_159 (by decide) (fun q => absurd rfl q) (fun _ => ?_)
  refine lv_aload_n hx hb dL_scans_162 rfl (lv_at hl 0 rfl) ?_
  refine lv_bipush (v := 8) hx hb dL_scans_163 (by decide) ?_
  refine lo_call (As := [.int 8]) (v := 1) (σ' := sc_s3) hB (lo_c_count l D yI yC yO h Ad sc_s3 u 8 _) (kw_scans_count hts) rfl hl.1 rfl (Nat.le_of_ble_eq_true rfl) dL_scans_165 (Nat.le_of_ble_eq_true rfl) (Nat.le_of_ble_eq_true rfl) sc_a16 rfl hP hD hS (fun u H locs hP hD hS => ?_)
  refine lv_iconst (v := 1) hx hb dL_scans_168 (by decide) ?_
  refine lv_icmp_ne (tgt := 229) hx hb dL_scans_169 (by decide) (fun q => absurd rfl q) (fun _ => ?_)
  refine lv_aload_n hx hb dL_scans_172 rfl (lv_at hl 0 rfl) ?_
  refine lv_iconst (v := 2) hx hb dL_scans_173 (by decide) ?_
  refine lo_call (As := [.int 2]) (v := 8) (σ' := sc_s3) hB (lo_c_count l D yI yC yO h Ad sc_s3 u 2 _) (kw_scans_count hts) rfl hl.1 rfl (Nat.le_of_ble_eq_true rfl) dL_scans_174 (Nat.le_of_ble_eq_true rfl) (Nat.le_of_ble_eq_true rfl) sc_a17 rfl hP hD hS (fun u H locs hP hD hS => ?_)
  refine lv_bipush (v := 8) hx hb dL_scans_177 (by decide) ?_
  refine lv_icmp_ne (tgt := 229) hx hb dL_scans_179 (by decide) (fun q => absurd rfl q) (fun _ => ?_)
  refine lv_aload_n hx hb dL_scans_182 rfl (lv_at hl 0 rfl) ?_
  refine lv_bipush (v := 14) hx hb dL_scans_183 (by decide) ?_
  refine lo_call (As := [.int 14]) (v := 5) (σ' := sc_s3) hB (lo_c_count l D yI yC yO h Ad sc_s3 u 14 _) (kw_scans_count hts) rfl hl.1 rfl (Nat.le_of_ble_eq_true rfl) dL_scans_185 (Nat.le_of_ble_eq_true rfl) (Nat.le_of_ble_eq_true rfl) sc_a18 rfl hP hD hS (fun u H locs hP hD hS => ?_)
  refine lv_iconst (v := 5) hx hb dL_scans_188 (by decide) ?_
  refine lv_icmp_ne (tgt := 229) hx hb dL_scans_189 (by decide) (fun q => absurd rfl q) (fun _ => ?_)
  refine lv_aload_n hx hb dL_scans_192 rfl (lv_at hl 0 rfl) ?_
  refine lv_iconst (v := 1) hx hb dL_scans_193 (by decide) ?_
  refine lo_call (As := [.int 1]) (v := 1) (σ' := sc_s4) hB (lo_c_scan l D yI yC yO h Ad sc_s3 u 1 _ sc_z19) (kw_scans_scan hts) rfl hl.1 rfl (Nat.le_of_ble_eq_true rfl) dL_scans_194 (Nat.le_of_ble_eq_true rfl) (Nat.le_of_ble_eq_true rfl) sc_a19 rfl hP hD hS (fun u H locs hP hD hS => ?_)
  refine lv_iconst (v := 1) hx hb dL_scans_197 (by decide) ?_
  refine lv_icmp_ne (tgt := 229) hx hb dL_scans_198 (by decide) (fun q => absurd rfl q) (fun _ => ?_)
  refine lv_aload_n hx hb dL_scans_201 rfl (lv_at hl 0 rfl) ?_
  refine lv_bipush (v := 14) hx hb dL_scans_202 (by decide) ?_
  refine lo_call (As := [.int 14]) (v := 6) (σ' := sc_s4) hB (lo_c_count l D yI yC yO h Ad sc_s4 u 14 _) (kw_scans_count hts) rfl hl.1 rfl (Nat.le_of_ble_eq_true rfl) dL_scans_204 (Nat.le_of_ble_eq_true rfl) (Nat.le_of_ble_eq_true rfl) sc_a20 rfl hP hD hS (fun u H locs hP hD hS => ?_)
  refine lv_bipush (v := 6) hx hb dL_scans_207 (by decide) ?_
  refine lv_icmp_ne (tgt := 229) hx hb dL_scans_209 (by decide) (fun q => absurd rfl q) (fun _ => ?_)
  refine lv_aload_n hx hb dL_scans_212 rfl (lv_at hl 0 rfl) ?_
  refine lv_bipush (v := 7) hx hb dL_scans_213 (by decide) ?_
  refine lo_call (As := [.int 7]) (v := 4) (σ' := sc_s4) hB (lo_c_count l D yI yC yO h Ad sc_s4 u 7 _) (kw_scans_count hts) rfl hl.1 rfl (Nat.le_of_ble_eq_true rfl) dL_scans_215 (Nat.le_of_ble_eq_true rfl) (Nat.le_of_ble_eq_true rfl) sc_a21 rfl hP hD hS (fun u H locs hP hD hS => ?_)
  refine lv_iconst (v := 4) hx hb dL_scans_218 (by decide) ?_
  refine lv_icmp_ne (tgt := 229) hx hb dL_scans_219 (by decide) (fun q => absurd rfl q) (fun _ => ?_)
  refine lv_aload_n hx hb dL_scans_222 rfl (lv_at hl 0 rfl) ?_
  refine lo_calls (X := (1, sc_s4)) (v := 1) (As := [.ref h]) (σ' := sc_s4) hB (lo_c_refused l D yI yC yO h Ad sc_s4 u _ sc_g22 sc_z22) (kw_scans_refused hts) rfl hl.1 rfl (Nat.le_of_ble_eq_true rfl) dL_scans_223 (Nat.le_of_ble_eq_true rfl) (Nat.le_of_ble_eq_true rfl) rfl rfl hP hD hS (fun u H locs hP hD hS => ?_)
  refine lv_if_ne (tgt := 231) hx hb dL_scans_226 (by decide) (fun _ => ?_) (fun q => absurd q (by decide))
  exact kk _ _ _ ⟨u, hP, hD, hS⟩ hl

set_option maxHeartbeats 4000000 in
set_option maxRecDepth 100000 in
theorem scans_p3 {p : Program} {l : Launch} {e : Env} {s : State} {m : MethodId} {args : Array Value} {below : List Frame} {meth : Method} {c : Code} {Q : State → Prop} {A : Nat → Prop} {D : va_G} {yI yC yO : ClassId} (hB : lo_B p s m args c cL_scans 4 wsL_scans D yI yC yO A) {h : Nat} {Ad : Nat → Nat → Nat} (kk : ∀ (H : Heap) (locs : List Loc) (ls : Array Slot), lo_I D yI yC yO A s.heap h Ad sc_s14 H locs → lv_has ls 4 [(1, .ref h)] → W p l e lo_rm_scans s m args below meth c H locs 286 7022 Q (F0 m 351 ls [])) :
    ∀ (H : Heap) (locs : List Loc) (ls : Array Slot), lo_I D yI yC yO A s.heap h Ad lo_t0 H locs → lv_has ls 4 [(1, .ref h)] → W p l e lo_rm_scans s m args below meth c H locs 286 7022 Q (F0 m 239 ls []) := by
  intro H locs ls hI hl
  obtain ⟨u, hP, hD, hS⟩ := hI
  have hx := hB.1.1
  have hb := hB.1.2.1
  have hown := hB.1.2.2.2.1
  have hts := hB.1.2.2.2.2
  refine lv_aload_n hx hb dL_scans_239 rfl (lv_at hl 0 rfl) ?_
  refine lv_iconst (v := 1) hx hb dL_scans_240 (by decide) ?_
  refine lv_iconst (v := 1) hx hb dL_scans_241 (by decide) ?_
  refine lo_call (As := [.int 1, .int 1]) (v := 0) (σ' := sc_s5) hB (lo_c_set l D yI yC yO h Ad lo_t0 u 1 1 _ sc_z23) (kw_scans_set hts) rfl hl.1 rfl (Nat.le_of_ble_eq_true rfl) dL_scans_242 (Nat.le_of_ble_eq_true rfl) (Nat.le_of_ble_eq_true rfl) sc_a23 rfl hP hD hS (fun u H locs hP hD hS => ?_)
  refine lv_if_ne (tgt := 579) hx hb dL_scans_245 (by decide) (fun q => absurd rfl q) (fun _ => ?_)
  refine lv_aload_n hx hb dL_scans_248 rfl (lv_at hl 0 rfl) ?_
  refine lv_iconst (v := 5) hx hb dL_scans_249 (by decide) ?_
  refine lo_call (As := [.int 5]) (v := 6) (σ' := sc_s6) hB (lo_c_setSuction l D yI yC yO h Ad sc_s5 u 5 _ sc_z24) (kw_scans_setSuction hts) rfl hl.1 rfl (Nat.le_of_ble_eq_true rfl) dL_scans_250 (Nat.le_of_ble_eq_true rfl) (Nat.le_of_ble_eq_true rfl) sc_a24 rfl hP hD hS (fun u H locs hP hD hS => ?_)
  refine lv_bipush (v := 6) hx hb dL_scans_253 (by decide) ?_
  refine lv_icmp_ne (tgt := 579) hx hb dL_scans_255 (by decide) (fun q => absurd rfl q) (fun _ => ?_)
  refine lv_aload_n hx hb dL_scans_258 rfl (lv_at hl 0 rfl) ?_
  refine lv_ldc2 (v := 4119730621103485228) hx hb hown (hts (.constantLong RL 110 4119730621103485228) (by decide +kernel)) dL_scans_259 ?_
  refine lo_calls (As := [.ref h, .long 4119730621103485228]) (v := 1) (σ' := sc_s7) hB (lo_c_types l D yI yC yO h Ad sc_s6 u 4119730621103485228 _) (kw_scans_types hts) rfl hl.1 rfl (Nat.le_of_ble_eq_true rfl) dL_scans_262 (Nat.le_of_ble_eq_true rfl) (Nat.le_of_ble_eq_true rfl) sc_a25 rfl hP hD hS (fun u H locs hP hD hS => ?_)
  refine lv_if_eq (tgt := 579) hx hb dL_scans_265 (by decide) (fun q => absurd q (by decide)) (fun _ => ?_)
  refine lv_aload_n hx hb dL_scans_268 rfl (lv_at hl 0 rfl) ?_
  refine lv_ldc2 (v := 3543261072711694636) hx hb hown (hts (.constantLong RL 112 3543261072711694636) (by decide +kernel)) dL_scans_269 ?_
  refine lo_calls (As := [.ref h, .long 3543261072711694636]) (v := 1) (σ' := sc_s8) hB (lo_c_types l D yI yC yO h Ad sc_s7 u 3543261072711694636 _) (kw_scans_types hts) rfl hl.1 rfl (Nat.le_of_ble_eq_true rfl) dL_scans_272 (Nat.le_of_ble_eq_true rfl) (Nat.le_of_ble_eq_true rfl) sc_a26 rfl hP hD hS (fun u H locs hP hD hS => ?_)
  refine lv_if_eq (tgt := 579) hx hb dL_scans_275 (by decide) (fun q => absurd q (by decide)) (fun _ => ?_)
  refine lv_aload_n hx hb dL_scans_278 rfl (lv_at hl 0 rfl) ?_
  refine lv_ldc2 (v := 3222577) hx hb hown (hts (.constantLong RL 114 3222577) (by decide +kernel)) dL_scans_279 ?_
  refine lo_calls (As := [.ref h, .long 3222577]) (v := 1) (σ' := sc_s9) hB (lo_c_types l D yI yC yO h Ad sc_s8 u 3222577 _) (kw_scans_types hts) rfl hl.1 rfl (Nat.le_of_ble_eq_true rfl) dL_scans_282 (Nat.le_of_ble_eq_true rfl) (Nat.le_of_ble_eq_true rfl) sc_a27 rfl hP hD hS (fun u H locs hP hD hS => ?_)
  refine lv_if_eq (tgt := 579) hx hb dL_scans_285 (by decide) (fun q => absurd q (by decide)) (fun _ => ?_)
  refine lv_aload_n hx hb dL_scans_288 rfl (lv_at hl 0 rfl) ?_
  refine lo_call (As := []) (v := 9) (σ' := sc_s10) hB (lo_c_takeBook l D yI yC yO h Ad sc_s9 u _ sc_z28) (kw_scans_takeBook hts) rfl hl.1 rfl (Nat.le_of_ble_eq_true rfl) dL_scans_289 (Nat.le_of_ble_eq_true rfl) (Nat.le_of_ble_eq_true rfl) sc_a28 rfl hP hD hS (fun u H locs hP hD hS => ?_)
  refine lv_bipush (v := 9) hx hb dL_scans_292 (by decide) ?_
  refine lv_icmp_ne (tgt := 579) hx hb dL_scans_294 (by decide) (fun q => absurd rfl q) (fun _ => ?_)
  refine lv_aload_n hx hb dL_scans_297 rfl (lv_at hl 0 rfl) ?_
  refine lv_iconst (v := 2) hx hb dL_scans_298 (by decide) ?_
  refine lo_call (As := [.int 2]) (v := 2) (σ' := sc_s11) hB (lo_c_scan l D yI yC yO h Ad sc_s10 u 2 _ sc_z29) (kw_scans_scan hts) rfl hl.1 rfl (Nat.le_of_ble_eq_true rfl) dL_scans_299 (Nat.le_of_ble_eq_true rfl) (Nat.le_of_ble_eq_true rfl) sc_a29 rfl hP hD hS (fun u H locs hP hD hS => ?_)
  refine lv_iconst (v := 2) hx hb dL_scans_302 (by decide) ?_
  refine lv_icmp_ne (tgt := 579) hx hb dL_scans_303 (by decide) (fun q => absurd rfl q) (fun _ => ?_)
  refine lv_aload_n hx hb dL_scans_306 rfl (lv_at hl 0 rfl) ?_
  refine lv_bipush (v := 9) hx hb dL_scans_307 (by decide) ?_
  refine lo_call (As := [.int 9]) (v := 2) (σ' := sc_s11) hB (lo_c_count l D yI yC yO h Ad sc_s11 u 9 _) (kw_scans_count hts) rfl hl.1 rfl (Nat.le_of_ble_eq_true rfl) dL_scans_309 (Nat.le_of_ble_eq_true rfl) (Nat.le_of_ble_eq_true rfl) sc_a30 rfl hP hD hS (fun u H locs hP hD hS => ?_)
  refine lv_iconst (v := 2) hx hb dL_scans_312 (by decide) ?_
  refine lv_icmp_ne (tgt := 579) hx hb dL_scans_313 (by decide) (fun q => absurd rfl q) (fun _ => ?_)
  refine lv_aload_n hx hb dL_scans_316 rfl (lv_at hl 0 rfl) ?_
  refine lv_bipush (v := 10) hx hb dL_scans_317 (by decide) ?_
  refine lo_call (As := [.int 10]) (v := 9) (σ' := sc_s11) hB (lo_c_count l D yI yC yO h Ad sc_s11 u 10 _) (kw_scans_count hts) rfl hl.1 rfl (Nat.le_of_ble_eq_true rfl) dL_scans_319 (Nat.le_of_ble_eq_true rfl) (Nat.le_of_ble_eq_true rfl) sc_a31 rfl hP hD hS (fun u H locs hP hD hS => ?_)
  refine lv_bipush (v := 9) hx hb dL_scans_322 (by decide) ?_
  refine lv_icmp_ne (tgt := 579) hx hb dL_scans_324 (by decide) (fun q => absurd rfl q) (fun _ => ?_)
  refine lv_aload_n hx hb dL_scans_327 rfl (lv_at hl 0 rfl) ?_
  refine lo_call (As := []) (v := 1) (σ' := sc_s12) hB (lo_c_turn l D yI yC yO h Ad sc_s11 u _ sc_z32) (kw_scans_turn hts) rfl hl.1 rfl (Nat.le_of_ble_eq_true rfl) dL_scans_328 (Nat.le_of_ble_eq_true rfl) (Nat.le_of_ble_eq_true rfl) sc_a32 rfl hP hD hS (fun u H locs hP hD hS => ?_)
  refine lv_iconst (v := 1) hx hb dL_scans_331 (by decide) ?_
  refine lv_icmp_ne (tgt := 579) hx hb dL_scans_332 (by decide) (fun q => absurd rfl q) (fun _ => ?_)
  refine lv_aload_n hx hb dL_scans_335 rfl (lv_at hl 0 rfl) ?_
  refine lo_call (As := []) (v := 1) (σ' := sc_s13) hB (lo_c_turn l D yI yC yO h Ad sc_s12 u _ sc_z33) (kw_scans_turn hts) rfl hl.1 rfl (Nat.le_of_ble_eq_true rfl) dL_scans_336 (Nat.le_of_ble_eq_true rfl) (Nat.le_of_ble_eq_true rfl) sc_a33 rfl hP hD hS (fun u H locs hP hD hS => ?_)
  refine lv_iconst (v := 1) hx hb dL_scans_339 (by decide) ?_
  refine lv_icmp_ne (tgt := 579) hx hb dL_scans_340 (by decide) (fun q => absurd rfl q) (fun _ => ?_)
  refine lv_aload_n hx hb dL_scans_343 rfl (lv_at hl 0 rfl) ?_
  refine lo_call (As := []) (v := 1) (σ' := sc_s14) hB (lo_c_turn l D yI yC yO h Ad sc_s13 u _ sc_z34) (kw_scans_turn hts) rfl hl.1 rfl (Nat.le_of_ble_eq_true rfl) dL_scans_344 (Nat.le_of_ble_eq_true rfl) (Nat.le_of_ble_eq_true rfl) sc_a34 rfl hP hD hS (fun u H locs hP hD hS => ?_)
  refine lv_iconst (v := 1) hx hb dL_scans_347 (by decide) ?_
  refine lv_icmp_ne (tgt := 579) hx hb dL_scans_348 (by decide) (fun q => absurd rfl q) (fun _ => ?_)
  exact kk _ _ _ ⟨u, hP, hD, hS⟩ hl

set_option maxHeartbeats 4000000 in
set_option maxRecDepth 100000 in
theorem scans_p4 {p : Program} {l : Launch} {e : Env} {s : State} {m : MethodId} {args : Array Value} {below : List Frame} {meth : Method} {c : Code} {Q : State → Prop} {A : Nat → Prop} {D : va_G} {yI yC yO : ClassId} (hB : lo_B p s m args c cL_scans 4 wsL_scans D yI yC yO A) {h : Nat} {Ad : Nat → Nat → Nat} (kk : ∀ (H : Heap) (locs : List Loc) (ls : Array Slot), lo_I D yI yC yO A s.heap h Ad sc_s19 H locs → lv_has ls 4 [(1, .ref h)] → W p l e lo_rm_scans s m args below meth c H locs 286 7022 Q (F0 m 466 ls [])) :
    ∀ (H : Heap) (locs : List Loc) (ls : Array Slot), lo_I D yI yC yO A s.heap h Ad sc_s14 H locs → lv_has ls 4 [(1, .ref h)] → W p l e lo_rm_scans s m args below meth c H locs 286 7022 Q (F0 m 351 ls []) := by
  intro H locs ls hI hl
  obtain ⟨u, hP, hD, hS⟩ := hI
  have hx := hB.1.1
  have hb := hB.1.2.1
  have hown := hB.1.2.2.2.1
  have hts := hB.1.2.2.2.2
  refine lv_aload_n hx hb dL_scans_351 rfl (lv_at hl 0 rfl) ?_
  refine lo_call (As := []) (v := 1) (σ' := sc_s15) hB (lo_c_turn l D yI yC yO h Ad sc_s14 u _ sc_z35) (kw_scans_turn hts) rfl hl.1 rfl (Nat.le_of_ble_eq_true rfl) dL_scans_352 (Nat.le_of_ble_eq_true rfl) (Nat.le_of_ble_eq_true rfl) sc_a35 rfl hP hD hS (fun u H locs hP hD hS => ?_)
  refine lv_iconst (v := 1) hx hb dL_scans_355 (by decide) ?_
  refine lv_icmp_ne (tgt := 579) hx hb dL_scans_356 (by decide) (fun q => absurd rfl q) (fun _ => ?_)
  refine lv_aload_n hx hb dL_scans_359 rfl (lv_at hl 0 rfl) ?_
  refine lv_bipush (v := 10) hx hb dL_scans_360 (by decide) ?_
  refine lo_call (As := [.int 10]) (v := 9) (σ' := sc_s15) hB (lo_c_count l D yI yC yO h Ad sc_s15 u 10 _) (kw_scans_count hts) rfl hl.1 rfl (Nat.le_of_ble_eq_true rfl) dL_scans_362 (Nat.le_of_ble_eq_true rfl) (Nat.le_of_ble_eq_true rfl) sc_a36 rfl hP hD hS (fun u H locs hP hD hS => ?_)
  refine lv_bipush (v := 9) hx hb dL_scans_365 (by decide) ?_
  refine lv_icmp_ne (tgt := 579) hx hb dL_scans_367 (by decide) (fun q => absurd rfl q) (fun _ => ?_)
  refine lv_aload_n hx hb dL_scans_370 rfl (lv_at hl 0 rfl) ?_
  refine lo_call (As := []) (v := 1) (σ' := sc_s16) hB (lo_c_turn l D yI yC yO h Ad sc_s15 u _ sc_z37) (kw_scans_turn hts) rfl hl.1 rfl (Nat.le_of_ble_eq_true rfl) dL_scans_371 (Nat.le_of_ble_eq_true rfl) (Nat.le_of_ble_eq_true rfl) sc_a37 rfl hP hD hS (fun u H locs hP hD hS => ?_)
  refine lv_iconst (v := 1) hx hb dL_scans_374 (by decide) ?_
  refine lv_icmp_ne (tgt := 579) hx hb dL_scans_375 (by decide) (fun q => absurd rfl q) (fun _ => ?_)
  refine lv_aload_n hx hb dL_scans_378 rfl (lv_at hl 0 rfl) ?_
  refine lv_bipush (v := 10) hx hb dL_scans_379 (by decide) ?_
  refine lo_call (As := [.int 10]) (v := 8) (σ' := sc_s16) hB (lo_c_count l D yI yC yO h Ad sc_s16 u 10 _) (kw_scans_count hts) rfl hl.1 rfl (Nat.le_of_ble_eq_true rfl) dL_scans_381 (Nat.le_of_ble_eq_true rfl) (Nat.le_of_ble_eq_true rfl) sc_a38 rfl hP hD hS (fun u H locs hP hD hS => ?_)
  refine lv_bipush (v := 8) hx hb dL_scans_384 (by decide) ?_
  refine lv_icmp_ne (tgt := 579) hx hb dL_scans_386 (by decide) (fun q => absurd rfl q) (fun _ => ?_)
  refine lv_aload_n hx hb dL_scans_389 rfl (lv_at hl 0 rfl) ?_
  refine lo_call (As := []) (v := 1) (σ' := sc_s17) hB (lo_c_turn l D yI yC yO h Ad sc_s16 u _ sc_z39) (kw_scans_turn hts) rfl hl.1 rfl (Nat.le_of_ble_eq_true rfl) dL_scans_390 (Nat.le_of_ble_eq_true rfl) (Nat.le_of_ble_eq_true rfl) sc_a39 rfl hP hD hS (fun u H locs hP hD hS => ?_)
  refine lv_iconst (v := 1) hx hb dL_scans_393 (by decide) ?_
  refine lv_icmp_ne (tgt := 579) hx hb dL_scans_394 (by decide) (fun q => absurd rfl q) (fun _ => ?_)
  refine lv_aload_n hx hb dL_scans_397 rfl (lv_at hl 0 rfl) ?_
  refine lv_bipush (v := 10) hx hb dL_scans_398 (by decide) ?_
  refine lo_call (As := [.int 10]) (v := 8) (σ' := sc_s17) hB (lo_c_count l D yI yC yO h Ad sc_s17 u 10 _) (kw_scans_count hts) rfl hl.1 rfl (Nat.le_of_ble_eq_true rfl) dL_scans_400 (Nat.le_of_ble_eq_true rfl) (Nat.le_of_ble_eq_true rfl) sc_a40 rfl hP hD hS (fun u H locs hP hD hS => ?_)
  refine lv_bipush (v := 8) hx hb dL_scans_403 (by decide) ?_
  refine lv_icmp_ne (tgt := 579) hx hb dL_scans_405 (by decide) (fun q => absurd rfl q) (fun _ => ?_)
  refine lv_aload_n hx hb dL_scans_408 rfl (lv_at hl 0 rfl) ?_
  refine lv_bipush (v := 8) hx hb dL_scans_409 (by decide) ?_
  refine lo_call (As := [.int 8]) (v := 2) (σ' := sc_s17) hB (lo_c_would l D yI yC yO h Ad sc_s17 u 8 _) (kw_scans_would hts) rfl hl.1 rfl (Nat.le_of_ble_eq_true rfl) dL_scans_411 (Nat.le_of_ble_eq_true rfl) (Nat.le_of_ble_eq_true rfl) sc_a41 rfl hP hD hS (fun u H locs hP hD hS => ?_)
  refine lv_iconst (v := 2) hx hb dL_scans_414 (by decide) ?_
  refine lv_icmp_ne (tgt := 579) hx hb dL_scans_415 (by decide) (fun q => absurd rfl q) (fun _ => ?_)
  refine lv_aload_n hx hb dL_scans_418 rfl (lv_at hl 0 rfl) ?_
  refine lo_call (As := []) (v := 2) (σ' := sc_s18) hB (lo_c_turn l D yI yC yO h Ad sc_s17 u _ sc_z42) (kw_scans_turn hts) rfl hl.1 rfl (Nat.le_of_ble_eq_true rfl) dL_scans_419 (Nat.le_of_ble_eq_true rfl) (Nat.le_of_ble_eq_true rfl) sc_a42 rfl hP hD hS (fun u H locs hP hD hS => ?_)
  refine lv_iconst (v := 2) hx hb dL_scans_422 (by decide) ?_
  refine lv_icmp_ne (tgt := 579) hx hb dL_scans_423 (by decide) (fun q => absurd rfl q) (fun _ => ?_)
  refine lv_aload_n hx hb dL_scans_426 rfl (lv_at hl 0 rfl) ?_
  refine lv_bipush (v := 10) hx hb dL_scans_427 (by decide) ?_
  refine lo_call (As := [.int 10]) (v := 9) (σ' := sc_s18) hB (lo_c_count l D yI yC yO h Ad sc_s18 u 10 _) (kw_scans_count hts) rfl hl.1 rfl (Nat.le_of_ble_eq_true rfl) dL_scans_429 (Nat.le_of_ble_eq_true rfl) (Nat.le_of_ble_eq_true rfl) sc_a43 rfl hP hD hS (fun u H locs hP hD hS => ?_)
  refine lv_bipush (v := 9) hx hb dL_scans_432 (by decide) ?_
  refine lv_icmp_ne (tgt := 579) hx hb dL_scans_434 (by decide) (fun q => absurd rfl q) (fun _ => ?_)
  refine lv_aload_n hx hb dL_scans_437 rfl (lv_at hl 0 rfl) ?_
  refine lo_call (As := []) (v := 1) (σ' := sc_s19) hB (lo_c_turn l D yI yC yO h Ad sc_s18 u _ sc_z44) (kw_scans_turn hts) rfl hl.1 rfl (Nat.le_of_ble_eq_true rfl) dL_scans_438 (Nat.le_of_ble_eq_true rfl) (Nat.le_of_ble_eq_true rfl) sc_a44 rfl hP hD hS (fun u H locs hP hD hS => ?_)
  refine lv_iconst (v := 1) hx hb dL_scans_441 (by decide) ?_
  refine lv_icmp_ne (tgt := 579) hx hb dL_scans_442 (by decide) (fun q => absurd rfl q) (fun _ => ?_)
  refine lv_aload_n hx hb dL_scans_445 rfl (lv_at hl 0 rfl) ?_
  refine lv_iconst (v := 1) hx hb dL_scans_446 (by decide) ?_
  refine lo_call (As := [.int 1]) (v := 9) (σ' := sc_s19) hB (lo_c_count l D yI yC yO h Ad sc_s19 u 1 _) (kw_scans_count hts) rfl hl.1 rfl (Nat.le_of_ble_eq_true rfl) dL_scans_447 (Nat.le_of_ble_eq_true rfl) (Nat.le_of_ble_eq_true rfl) sc_a45 rfl hP hD hS (fun u H locs hP hD hS => ?_)
  refine lv_bipush (v := 9) hx hb dL_scans_450 (by decide) ?_
  refine lv_icmp_ne (tgt := 579) hx hb dL_scans_452 (by decide) (fun q => absurd rfl q) (fun _ => ?_)
  refine lv_aload_n hx hb dL_scans_455 rfl (lv_at hl 0 rfl) ?_
  refine lv_bipush (v := 7) hx hb dL_scans_456 (by decide) ?_
  refine lo_call (As := [.int 7]) (v := 10) (σ' := sc_s19) hB (lo_c_count l D yI yC yO h Ad sc_s19 u 7 _) (kw_scans_count hts) rfl hl.1 rfl (Nat.le_of_ble_eq_true rfl) dL_scans_458 (Nat.le_of_ble_eq_true rfl) (Nat.le_of_ble_eq_true rfl) sc_a46 rfl hP hD hS (fun u H locs hP hD hS => ?_)
  refine lv_bipush (v := 10) hx hb dL_scans_461 (by decide) ?_
  refine lv_icmp_ne (tgt := 579) hx hb dL_scans_463 (by decide) (fun q => absurd rfl q) (fun _ => ?_)
  exact kk _ _ _ ⟨u, hP, hD, hS⟩ hl

set_option maxHeartbeats 4000000 in
set_option maxRecDepth 100000 in
theorem scans_p5 {p : Program} {l : Launch} {e : Env} {s : State} {m : MethodId} {args : Array Value} {below : List Frame} {meth : Method} {c : Code} {Q : State → Prop} {A : Nat → Prop} {D : va_G} {yI yC yO : ClassId} (hB : lo_B p s m args c cL_scans 4 wsL_scans D yI yC yO A) {h : Nat} {Ad : Nat → Nat → Nat} (kk : ∀ (H : Heap) (locs : List Loc) (ls : Array Slot), lo_I D yI yC yO A s.heap h Ad sc_s27 H locs → lv_has ls 4 [(1, .ref h)] → W p l e lo_rm_scans s m args below meth c H locs 286 7022 Q (F0 m 581 ls [])) :
    ∀ (H : Heap) (locs : List Loc) (ls : Array Slot), lo_I D yI yC yO A s.heap h Ad sc_s19 H locs → lv_has ls 4 [(1, .ref h)] → W p l e lo_rm_scans s m args below meth c H locs 286 7022 Q (F0 m 466 ls []) := by
  intro H locs ls hI hl
  obtain ⟨u, hP, hD, hS⟩ := hI
  have hx := hB.1.1
  have hb := hB.1.2.1
  have hown := hB.1.2.2.2.1
  have hts := hB.1.2.2.2.2
  refine lv_aload_n hx hb dL_scans_466 rfl (lv_at hl 0 rfl) ?_
  refine lv_bipush (v := 20) hx hb dL_scans_467 (by decide) ?_
  refine lo_call (As := [.int 20]) (v := 9) (σ' := sc_s20) hB (lo_c_setSuction l D yI yC yO h Ad sc_s19 u 20 _ sc_z47) (kw_scans_setSuction hts) rfl hl.1 rfl (Nat.le_of_ble_eq_true rfl) dL_scans_469 (Nat.le_of_ble_eq_true rfl) (Nat.le_of_ble_eq_true rfl) sc_a47 rfl hP hD hS (fun u H locs hP hD hS => ?_)
  refine lv_bipush (v := 9) hx hb dL_scans_472 (by decide) ?_
  refine lv_icmp_ne (tgt := 579) hx hb dL_scans_474 (by decide) (fun q => absurd rfl q) (fun _ => ?_)
  refine lv_aload_n hx hb dL_scans_477 rfl (lv_at hl 0 rfl) ?_
  refine lo_call (As := []) (v := 19) (σ' := sc_s21) hB (lo_c_clearText l D yI yC yO h Ad sc_s20 u _) (kw_scans_clearText hts) rfl hl.1 rfl (Nat.le_of_ble_eq_true rfl) dL_scans_478 (Nat.le_of_ble_eq_true rfl) (Nat.le_of_ble_eq_true rfl) sc_a48 rfl hP hD hS (fun u H locs hP hD hS => ?_)
  refine lv_bipush (v := 19) hx hb dL_scans_481 (by decide) ?_
  refine lv_icmp_ne (tgt := 579) hx hb dL_scans_483 (by decide) (fun q => absurd rfl q) (fun _ => ?_)
  refine lv_aload_n hx hb dL_scans_486 rfl (lv_at hl 0 rfl) ?_
  refine lv_ldc2 (v := 245555080241) hx hb hown (hts (.constantLong RL 119 245555080241) (by decide +kernel)) dL_scans_487 ?_
  refine lo_calls (As := [.ref h, .long 245555080241]) (v := 1) (σ' := sc_s22) hB (lo_c_types l D yI yC yO h Ad sc_s21 u 245555080241 _) (kw_scans_types hts) rfl hl.1 rfl (Nat.le_of_ble_eq_true rfl) dL_scans_490 (Nat.le_of_ble_eq_true rfl) (Nat.le_of_ble_eq_true rfl) sc_a49 rfl hP hD hS (fun u H locs hP hD hS => ?_)
  refine lv_if_eq (tgt := 579) hx hb dL_scans_493 (by decide) (fun q => absurd q (by decide)) (fun _ => ?_)
  refine lv_aload_n hx hb dL_scans_496 rfl (lv_at hl 0 rfl) ?_
  refine lo_call (As := []) (v := 3) (σ' := sc_s23) hB (lo_c_takeBook l D yI yC yO h Ad sc_s22 u _ sc_z50) (kw_scans_takeBook hts) rfl hl.1 rfl (Nat.le_of_ble_eq_true rfl) dL_scans_497 (Nat.le_of_ble_eq_true rfl) (Nat.le_of_ble_eq_true rfl) sc_a50 rfl hP hD hS (fun u H locs hP hD hS => ?_)
  refine lv_iconst (v := 3) hx hb dL_scans_500 (by decide) ?_
  refine lv_icmp_ne (tgt := 579) hx hb dL_scans_501 (by decide) (fun q => absurd rfl q) (fun _ => ?_)
  refine lv_aload_n hx hb dL_scans_504 rfl (lv_at hl 0 rfl) ?_
  refine lv_bipush (v := 10) hx hb dL_scans_505 (by decide) ?_
  refine lo_call (As := [.int 10]) (v := 20) (σ' := sc_s23) hB (lo_c_count l D yI yC yO h Ad sc_s23 u 10 _) (kw_scans_count hts) rfl hl.1 rfl (Nat.le_of_ble_eq_true rfl) dL_scans_507 (Nat.le_of_ble_eq_true rfl) (Nat.le_of_ble_eq_true rfl) sc_a51 rfl hP hD hS (fun u H locs hP hD hS => ?_)
  refine lv_bipush (v := 20) hx hb dL_scans_510 (by decide) ?_
  refine lv_icmp_ne (tgt := 579) hx hb dL_scans_512 (by decide) (fun q => absurd rfl q) (fun _ => ?_)
  refine lv_aload_n hx hb dL_scans_515 rfl (lv_at hl 0 rfl) ?_
  refine lv_bipush (v := 19) hx hb dL_scans_516 (by decide) ?_
  refine lo_call (As := [.int 19]) (v := 20) (σ' := sc_s24) hB (lo_c_setSuction l D yI yC yO h Ad sc_s23 u 19 _ sc_z52) (kw_scans_setSuction hts) rfl hl.1 rfl (Nat.le_of_ble_eq_true rfl) dL_scans_518 (Nat.le_of_ble_eq_true rfl) (Nat.le_of_ble_eq_true rfl) sc_a52 rfl hP hD hS (fun u H locs hP hD hS => ?_)
  refine lv_bipush (v := 20) hx hb dL_scans_521 (by decide) ?_
  refine lv_icmp_ne (tgt := 579) hx hb dL_scans_523 (by decide) (fun q => absurd rfl q) (fun _ => ?_)
  refine lv_aload_n hx hb dL_scans_526 rfl (lv_at hl 0 rfl) ?_
  refine lv_iconst (v := 0) hx hb dL_scans_527 (by decide) ?_
  refine lv_sipush (v := 150) hx hb dL_scans_528 (by decide) ?_
  refine lo_call (As := [.int 0, .int 150]) (v := 1) (σ' := sc_s25) hB (lo_c_print l D yI yC yO h Ad sc_s24 u 0 150 _ sc_z53) (kw_scans_print hts) rfl hl.1 rfl (Nat.le_of_ble_eq_true rfl) dL_scans_531 (Nat.le_of_ble_eq_true rfl) (Nat.le_of_ble_eq_true rfl) sc_a53 rfl hP hD hS (fun u H locs hP hD hS => ?_)
  refine lv_iconst (v := 1) hx hb dL_scans_534 (by decide) ?_
  refine lv_icmp_ne (tgt := 579) hx hb dL_scans_535 (by decide) (fun q => absurd rfl q) (fun _ => ?_)
  refine lv_aload_n hx hb dL_scans_538 rfl (lv_at hl 0 rfl) ?_
  refine lv_iconst (v := 0) hx hb dL_scans_539 (by decide) ?_
  refine lv_bipush (v := 10) hx hb dL_scans_540 (by decide) ?_
  refine lo_call (As := [.int 0, .int 10]) (v := 2) (σ' := sc_s26) hB (lo_c_set l D yI yC yO h Ad sc_s25 u 0 10 _ sc_z54) (kw_scans_set hts) rfl hl.1 rfl (Nat.le_of_ble_eq_true rfl) dL_scans_542 (Nat.le_of_ble_eq_true rfl) (Nat.le_of_ble_eq_true rfl) sc_a54 rfl hP hD hS (fun u H locs hP hD hS => ?_)
  refine lv_iconst (v := 2) hx hb dL_scans_545 (by decide) ?_
  refine lv_icmp_ne (tgt := 579) hx hb dL_scans_546 (by decide) (fun q => absurd rfl q) (fun _ => ?_)
  refine lv_aload_n hx hb dL_scans_549 rfl (lv_at hl 0 rfl) ?_
  refine lo_call (As := []) (v := 1) (σ' := sc_s27) hB (lo_c_shoot l D yI yC yO h Ad sc_s26 u _ sc_z55) (kw_scans_shoot hts) rfl hl.1 rfl (Nat.le_of_ble_eq_true rfl) dL_scans_550 (Nat.le_of_ble_eq_true rfl) (Nat.le_of_ble_eq_true rfl) sc_a55 rfl hP hD hS (fun u H locs hP hD hS => ?_)
  refine lv_iconst (v := 1) hx hb dL_scans_553 (by decide) ?_
  refine lv_icmp_ne (tgt := 579) hx hb dL_scans_554 (by decide) (fun q => absurd rfl q) (fun _ => ?_)
  refine lv_aload_n hx hb dL_scans_557 rfl (lv_at hl 0 rfl) ?_
  refine lv_iconst (v := 0) hx hb dL_scans_558 (by decide) ?_
  refine lv_iconst (v := 2) hx hb dL_scans_559 (by decide) ?_
  refine lo_call (As := [.int 0, .int 2]) (v := 1) (σ' := sc_s27) hB (lo_c_picture l D yI yC yO h Ad sc_s27 u 0 2 _) (kw_scans_picture hts) rfl hl.1 rfl (Nat.le_of_ble_eq_true rfl) dL_scans_560 (Nat.le_of_ble_eq_true rfl) (Nat.le_of_ble_eq_true rfl) sc_a56 rfl hP hD hS (fun u H locs hP hD hS => ?_)
  refine lv_iconst (v := 1) hx hb dL_scans_563 (by decide) ?_
  refine lv_icmp_ne (tgt := 579) hx hb dL_scans_564 (by decide) (fun q => absurd rfl q) (fun _ => ?_)
  refine lv_aload_n hx hb dL_scans_567 rfl (lv_at hl 0 rfl) ?_
  refine lv_iconst (v := 0) hx hb dL_scans_568 (by decide) ?_
  refine lv_iconst (v := 1) hx hb dL_scans_569 (by decide) ?_
  refine lo_call (As := [.int 0, .int 1]) (v := 150) (σ' := sc_s27) hB (lo_c_picture l D yI yC yO h Ad sc_s27 u 0 1 _) (kw_scans_picture hts) rfl hl.1 rfl (Nat.le_of_ble_eq_true rfl) dL_scans_570 (Nat.le_of_ble_eq_true rfl) (Nat.le_of_ble_eq_true rfl) sc_a57 rfl hP hD hS (fun u H locs hP hD hS => ?_)
  refine lv_sipush (v := 150) hx hb dL_scans_573 (by decide) ?_
  refine lv_icmp_eq (tgt := 581) hx hb dL_scans_576 (by decide) (fun _ => ?_) (fun q => absurd (by decide) q)
  exact kk _ _ _ ⟨u, hP, hD, hS⟩ hl

set_option maxHeartbeats 4000000 in
set_option maxRecDepth 100000 in
theorem scans_q6 {p : Program} {l : Launch} {e : Env} {s : State} {m : MethodId} {args : Array Value} {below : List Frame} {meth : Method} {c : Code} {Q : State → Prop} {A : Nat → Prop} {D : va_G} {yI yC yO : ClassId} (hB : lo_B p s m args c cL_scans 4 wsL_scans D yI yC yO A) {h : Nat} {Ad : Nat → Nat → Nat} (kk : ∀ (H : Heap) (locs : List Loc) (ls : Array Slot), lo_I D yI yC yO A s.heap h Ad sc_s29 H locs → lv_has ls 4 [(2, .ref h)] → W p l e lo_rm_scans s m args below meth c H locs 429 10533 Q (F0 m 609 ls [])) :
    ∀ (H : Heap) (locs : List Loc) (ls : Array Slot), lo_I D yI yC yO A s.heap h Ad lo_t0 H locs → lv_has ls 4 [(2, .ref h)] → W p l e lo_rm_scans s m args below meth c H locs 429 10533 Q (F0 m 589 ls []) := by
  intro H locs ls hI hl
  obtain ⟨u, hP, hD, hS⟩ := hI
  have hx := hB.1.1
  have hb := hB.1.2.1
  have hown := hB.1.2.2.2.1
  have hts := hB.1.2.2.2.2
  refine lv_aload_n hx hb dL_scans_589 rfl (lv_at hl 0 rfl) ?_
  refine lv_ldc2 (v := 55) hx hb hown (hts (.constantLong RL 121 55) (by decide +kernel)) dL_scans_590 ?_
  refine lo_calls (As := [.ref h, .long 55]) (v := 1) (σ' := sc_s28) hB (lo_c_types l D yI yC yO h Ad lo_t0 u 55 _) (kw_scans_types hts) rfl hl.1 rfl (Nat.le_of_ble_eq_true rfl) dL_scans_593 (Nat.le_of_ble_eq_true rfl) (Nat.le_of_ble_eq_true rfl) sc_a58 rfl hP hD hS (fun u H locs hP hD hS => ?_)
  refine lv_if_eq (tgt := 607) hx hb dL_scans_596 (by decide) (fun q => absurd q (by decide)) (fun _ => ?_)
  refine lv_aload_n hx hb dL_scans_599 rfl (lv_at hl 0 rfl) ?_
  refine lo_call (As := []) (v := 1) (σ' := sc_s29) hB (lo_c_takeBook l D yI yC yO h Ad sc_s28 u _ sc_z59) (kw_scans_takeBook hts) rfl hl.1 rfl (Nat.le_of_ble_eq_true rfl) dL_scans_600 (Nat.le_of_ble_eq_true rfl) (Nat.le_of_ble_eq_true rfl) sc_a59 rfl hP hD hS (fun u H locs hP hD hS => ?_)
  refine lv_iconst (v := 1) hx hb dL_scans_603 (by decide) ?_
  refine lv_icmp_eq (tgt := 609) hx hb dL_scans_604 (by decide) (fun _ => ?_) (fun q => absurd (by decide) q)
  exact kk _ _ _ ⟨u, hP, hD, hS⟩ hl

set_option maxHeartbeats 4000000 in
set_option maxRecDepth 100000 in
theorem scans_r7 {p : Program} {l : Launch} {e : Env} {s : State} {m : MethodId} {args : Array Value} {below : List Frame} {meth : Method} {c : Code} {Q : State → Prop} {A : Nat → Prop} {D : va_G} {yI yC yO : ClassId} (hB : lo_B p s m args c cL_scans 4 wsL_scans D yI yC yO A) {h : Nat} {Ad : Nat → Nat → Nat} (kk : ∀ (H : Heap) (locs : List Loc) (ls : Array Slot), lo_I D yI yC yO A s.heap h Ad sc_s35 H locs → lv_has ls 4 [(2, .ref h)] → W p l e lo_rm_scans s m args below meth c H locs 429 10533 Q (F0 m 758 ls [])) :
    ∀ (H : Heap) (locs : List Loc) (ls : Array Slot), lo_I D yI yC yO A s.heap h Ad sc_q H locs → lv_has ls 4 [(2, .ref h)] → W p l e lo_rm_scans s m args below meth c H locs 429 10533 Q (F0 m 644 ls []) := by
  intro H locs ls hI hl
  obtain ⟨u, hP, hD, hS⟩ := hI
  have hx := hB.1.1
  have hb := hB.1.2.1
  have hown := hB.1.2.2.2.1
  have hts := hB.1.2.2.2.2
  refine lv_aload_n hx hb dL_scans_644 rfl (lv_at hl 0 rfl) ?_
  refine lo_call (As := []) (v := (-3)) (σ' := sc_s30) hB (lo_c_shoot l D yI yC yO h Ad sc_q u _ sc_z60) (kw_scans_shoot hts) rfl hl.1 rfl (Nat.le_of_ble_eq_true rfl) dL_scans_645 (Nat.le_of_ble_eq_true rfl) (Nat.le_of_ble_eq_true rfl) sc_a60 rfl hP hD hS (fun u H locs hP hD hS => ?_)
  refine lv_bipush (v := (-3)) hx hb dL_scans_648 (by decide) ?_
  refine lv_icmp_ne (tgt := 762) hx hb dL_scans_650 (by decide) (fun q => absurd rfl q) (fun _ => ?_)
  refine lv_aload_n hx hb dL_scans_653 rfl (lv_at hl 0 rfl) ?_
  refine lv_iconst (v := 1) hx hb dL_scans_654 (by decide) ?_
  refine lo_call (As := [.int 1]) (v := (-3)) (σ' := sc_s31) hB (lo_c_scan l D yI yC yO h Ad sc_s30 u 1 _ sc_z61) (kw_scans_scan hts) rfl hl.1 rfl (Nat.le_of_ble_eq_true rfl) dL_scans_655 (Nat.le_of_ble_eq_true rfl) (Nat.le_of_ble_eq_true rfl) sc_a61 rfl hP hD hS (fun u H locs hP hD hS => ?_)
  refine lv_bipush (v := (-3)) hx hb dL_scans_658 (by decide) ?_
  refine lv_icmp_ne (tgt := 762) hx hb dL_scans_660 (by decide) (fun q => absurd rfl q) (fun _ => ?_)
  refine lv_aload_n hx hb dL_scans_663 rfl (lv_at hl 0 rfl) ?_
  refine lv_iconst (v := 2) hx hb dL_scans_664 (by decide) ?_
  refine lo_call (As := [.int 2]) (v := 80) (σ' := sc_s31) hB (lo_c_count l D yI yC yO h Ad sc_s31 u 2 _) (kw_scans_count hts) rfl hl.1 rfl (Nat.le_of_ble_eq_true rfl) dL_scans_665 (Nat.le_of_ble_eq_true rfl) (Nat.le_of_ble_eq_true rfl) sc_a62 rfl hP hD hS (fun u H locs hP hD hS => ?_)
  refine lv_bipush (v := 80) hx hb dL_scans_668 (by decide) ?_
  refine lv_icmp_ne (tgt := 762) hx hb dL_scans_670 (by decide) (fun q => absurd rfl q) (fun _ => ?_)
  refine lv_aload_n hx hb dL_scans_673 rfl (lv_at hl 0 rfl) ?_
  refine lv_bipush (v := 7) hx hb dL_scans_674 (by decide) ?_
  refine lo_call (As := [.int 7]) (v := 0) (σ' := sc_s31) hB (lo_c_count l D yI yC yO h Ad sc_s31 u 7 _) (kw_scans_count hts) rfl hl.1 rfl (Nat.le_of_ble_eq_true rfl) dL_scans_676 (Nat.le_of_ble_eq_true rfl) (Nat.le_of_ble_eq_true rfl) sc_a63 rfl hP hD hS (fun u H locs hP hD hS => ?_)
  refine lv_if_ne (tgt := 762) hx hb dL_scans_679 (by decide) (fun q => absurd rfl q) (fun _ => ?_)
  refine lv_aload_n hx hb dL_scans_682 rfl (lv_at hl 0 rfl) ?_
  refine lo_call (As := []) (v := 0) (σ' := sc_s32) hB (lo_c_turn l D yI yC yO h Ad sc_s31 u _ sc_z64) (kw_scans_turn hts) rfl hl.1 rfl (Nat.le_of_ble_eq_true rfl) dL_scans_683 (Nat.le_of_ble_eq_true rfl) (Nat.le_of_ble_eq_true rfl) sc_a64 rfl hP hD hS (fun u H locs hP hD hS => ?_)
  refine lv_if_ne (tgt := 762) hx hb dL_scans_686 (by decide) (fun q => absurd rfl q) (fun _ => ?_)
  refine lv_aload_n hx hb dL_scans_689 rfl (lv_at hl 0 rfl) ?_
  refine lv_bipush (v := 9) hx hb dL_scans_690 (by decide) ?_
  refine lo_call (As := [.int 9]) (v := 1) (σ' := sc_s32) hB (lo_c_count l D yI yC yO h Ad sc_s32 u 9 _) (kw_scans_count hts) rfl hl.1 rfl (Nat.le_of_ble_eq_true rfl) dL_scans_692 (Nat.le_of_ble_eq_true rfl) (Nat.le_of_ble_eq_true rfl) sc_a65 rfl hP hD hS (fun u H locs hP hD hS => ?_)
  refine lv_iconst (v := 1) hx hb dL_scans_695 (by decide) ?_
  refine lv_icmp_ne (tgt := 762) hx hb dL_scans_696 (by decide) (fun q => absurd rfl q) (fun _ => ?_)
  refine lv_aload_n hx hb dL_scans_699 rfl (lv_at hl 0 rfl) ?_
  refine lv_iconst (v := 0) hx hb dL_scans_700 (by decide) ?_
  refine lo_call (As := [.int 0]) (v := 79) (σ' := sc_s33) hB (lo_c_throwAway l D yI yC yO h Ad sc_s32 u 0 _ sc_z66) (kw_scans_throwAway hts) rfl hl.1 rfl (Nat.le_of_ble_eq_true rfl) dL_scans_701 (Nat.le_of_ble_eq_true rfl) (Nat.le_of_ble_eq_true rfl) sc_a66 rfl hP hD hS (fun u H locs hP hD hS => ?_)
  refine lv_bipush (v := 79) hx hb dL_scans_704 (by decide) ?_
  refine lv_icmp_ne (tgt := 762) hx hb dL_scans_706 (by decide) (fun q => absurd rfl q) (fun _ => ?_)
  refine lv_aload_n hx hb dL_scans_709 rfl (lv_at hl 0 rfl) ?_
  refine lv_iconst (v := 1) hx hb dL_scans_710 (by decide) ?_
  refine lo_call (As := [.int 1]) (v := 1) (σ' := sc_s34) hB (lo_c_scan l D yI yC yO h Ad sc_s33 u 1 _ sc_z67) (kw_scans_scan hts) rfl hl.1 rfl (Nat.le_of_ble_eq_true rfl) dL_scans_711 (Nat.le_of_ble_eq_true rfl) (Nat.le_of_ble_eq_true rfl) sc_a67 rfl hP hD hS (fun u H locs hP hD hS => ?_)
  refine lv_iconst (v := 1) hx hb dL_scans_714 (by decide) ?_
  refine lv_icmp_ne (tgt := 762) hx hb dL_scans_715 (by decide) (fun q => absurd rfl q) (fun _ => ?_)
  refine lv_aload_n hx hb dL_scans_718 rfl (lv_at hl 0 rfl) ?_
  refine lv_bipush (v := 79) hx hb dL_scans_719 (by decide) ?_
  refine lv_bipush (v := 6) hx hb dL_scans_721 (by decide) ?_
  refine lo_call (As := [.int 79, .int 6]) (v := 80) (σ' := sc_s34) hB (lo_c_picture l D yI yC yO h Ad sc_s34 u 79 6 _) (kw_scans_picture hts) rfl hl.1 rfl (Nat.le_of_ble_eq_true rfl) dL_scans_723 (Nat.le_of_ble_eq_true rfl) (Nat.le_of_ble_eq_true rfl) sc_a68 rfl hP hD hS (fun u H locs hP hD hS => ?_)
  refine lv_bipush (v := 80) hx hb dL_scans_726 (by decide) ?_
  refine lv_icmp_ne (tgt := 762) hx hb dL_scans_728 (by decide) (fun q => absurd rfl q) (fun _ => ?_)
  refine lv_aload_n hx hb dL_scans_731 rfl (lv_at hl 0 rfl) ?_
  refine lv_iconst (v := 5) hx hb dL_scans_732 (by decide) ?_
  refine lo_call (As := [.int 5]) (v := 79) (σ' := sc_s34) hB (lo_c_count l D yI yC yO h Ad sc_s34 u 5 _) (kw_scans_count hts) rfl hl.1 rfl (Nat.le_of_ble_eq_true rfl) dL_scans_733 (Nat.le_of_ble_eq_true rfl) (Nat.le_of_ble_eq_true rfl) sc_a69 rfl hP hD hS (fun u H locs hP hD hS => ?_)
  refine lv_bipush (v := 79) hx hb dL_scans_736 (by decide) ?_
  refine lv_icmp_ne (tgt := 762) hx hb dL_scans_738 (by decide) (fun q => absurd rfl q) (fun _ => ?_)
  refine lv_aload_n hx hb dL_scans_741 rfl (lv_at hl 0 rfl) ?_
  refine lv_iconst (v := 0) hx hb dL_scans_742 (by decide) ?_
  refine lo_call (As := [.int 0]) (v := (-2)) (σ' := sc_s35) hB (lo_c_scan l D yI yC yO h Ad sc_s34 u 0 _ sc_z70) (kw_scans_scan hts) rfl hl.1 rfl (Nat.le_of_ble_eq_true rfl) dL_scans_743 (Nat.le_of_ble_eq_true rfl) (Nat.le_of_ble_eq_true rfl) sc_a70 rfl hP hD hS (fun u H locs hP hD hS => ?_)
  refine lv_bipush (v := (-2)) hx hb dL_scans_746 (by decide) ?_
  refine lv_icmp_ne (tgt := 762) hx hb dL_scans_748 (by decide) (fun q => absurd rfl q) (fun _ => ?_)
  refine lv_aload_n hx hb dL_scans_751 rfl (lv_at hl 0 rfl) ?_
  refine lo_calls (X := (1, sc_s35)) (v := 1) (As := [.ref h]) (σ' := sc_s35) hB (lo_c_refused l D yI yC yO h Ad sc_s35 u _ sc_g71 sc_z71) (kw_scans_refused hts) rfl hl.1 rfl (Nat.le_of_ble_eq_true rfl) dL_scans_752 (Nat.le_of_ble_eq_true rfl) (Nat.le_of_ble_eq_true rfl) rfl rfl hP hD hS (fun u H locs hP hD hS => ?_)
  refine lv_if_eq (tgt := 762) hx hb dL_scans_755 (by decide) (fun q => absurd q (by decide)) (fun _ => ?_)
  exact kk _ _ _ ⟨u, hP, hD, hS⟩ hl

set_option maxHeartbeats 4000000 in
set_option maxRecDepth 100000 in
theorem scans_r8 {p : Program} {l : Launch} {e : Env} {s : State} {m : MethodId} {args : Array Value} {below : List Frame} {meth : Method} {c : Code} {Q : State → Prop} {A : Nat → Prop} {D : va_G} {yI yC yO : ClassId} (hB : lo_B p s m args c cL_scans 4 wsL_scans D yI yC yO A) {h : Nat} {Ad : Nat → Nat → Nat} (kk : ∀ (H : Heap) (locs : List Loc) (ls : Array Slot), lo_I D yI yC yO A s.heap h Ad sc_s35 H locs → lv_has ls 4 [(2, .ref h)] → W p l e lo_rm_scans s m args below meth c H locs 429 10533 Q (F0 m 763 ls [.int 1])) :
    ∀ (H : Heap) (locs : List Loc) (ls : Array Slot), lo_I D yI yC yO A s.heap h Ad sc_s35 H locs → lv_has ls 4 [(2, .ref h)] → W p l e lo_rm_scans s m args below meth c H locs 429 10533 Q (F0 m 758 ls []) := by
  intro H locs ls hI hl
  obtain ⟨u, hP, hD, hS⟩ := hI
  have hx := hB.1.1
  have hb := hB.1.2.1
  have hown := hB.1.2.2.2.1
  have hts := hB.1.2.2.2.2
  refine lv_iconst (v := 1) hx hb dL_scans_758 (by decide) ?_
  refine lv_goto (tgt := 763) hx hb dL_scans_759 (by decide) ?_
  exact kk _ _ _ ⟨u, hP, hD, hS⟩ hl

set_option maxHeartbeats 4000000 in
set_option maxRecDepth 100000 in
theorem scans_loop {p : Program} {l : Launch} {e : Env} {s : State} {m : MethodId} {args : Array Value} {below : List Frame} {meth : Method} {c : Code} {Q : State → Prop} {A : Nat → Prop} {D : va_G} {yI yC yO : ClassId} (hB : lo_B p s m args c cL_scans 4 wsL_scans D yI yC yO A) {h : Nat} {Ad : Nat → Nat → Nat} (kk : ∀ (H : Heap) (locs : List Loc) (ls : Array Slot), lo_I D yI yC yO A s.heap h Ad sc_q H locs → lv_has ls 4 [(2, .ref h)] → W p l e lo_rm_scans s m args below meth c H locs 429 10533 Q (F0 m 644 ls [])) :
    ∀ (n k : Nat), k + n = 80 → ∀ (H : Heap) (locs : List Loc) (ls : Array Slot), lo_I D yI yC yO A s.heap h Ad (lo_sq k) H locs → lv_has ls 4 [(3, .int (nI k)), (2, .ref h)] → W p l e lo_rm_scans s m args below meth c H locs 429 10533 Q (F0 m 611 ls []) := by
  have hx := hB.1.1
  have hb := hB.1.2.1
  have hts := hB.1.2.2.2.2
  intro n
  induction n with
  | zero =>
    intro k hk H locs ls hI hl
    obtain rfl : k = 80 := by omega
    refine lv_iload_n hx hb dL_scans_611 rfl (lv_at hl 0 rfl) ?_
    refine lv_bipush (v := 80) hx hb dL_scans_612 (by decide) ?_
    exact lv_icmp_ge (tgt := 644) hx hb dL_scans_614 (by decide) (fun _ => kk H locs ls hI (lv_sub hl [1] rfl)) (fun q => absurd (show (80 : Int32) ≤ nI 80 by decide) q)
  | succ n ih =>
    intro k hk H locs ls hI hl
    obtain ⟨f1, f2, f3⟩ := lo_sqf k (by omega)
    refine lv_iload_n hx hb dL_scans_611 rfl (lv_at hl 0 rfl) ?_
    refine lv_bipush (v := 80) hx hb dL_scans_612 (by decide) ?_
    refine lv_icmp_ge (tgt := 644) hx hb dL_scans_614 (by decide) (fun q => absurd q (nI_ge (a := k) (b := 80) (by omega) (by decide))) (fun _ => ?_)
    obtain ⟨u, hP, hD, hS⟩ := hI
    refine lv_aload_n hx hb dL_scans_617 rfl (lv_at hl 1 rfl) ?_
    refine lo_call (As := []) (v := 1) (σ' := lo_sq (k + 1)) hB (lo_c_shoot l D yI yC yO h Ad (lo_sq k) u _ f3) (kw_scans_shoot hts) rfl hl.1 rfl (Nat.le_of_ble_eq_true rfl) dL_scans_618 (Nat.le_of_ble_eq_true rfl) (Nat.le_of_ble_eq_true rfl) f1 rfl hP hD hS (fun u H locs hP hD hS => ?_)
    refine lv_iconst (v := 1) hx hb dL_scans_621 (by decide) ?_
    refine lv_icmp_ne (tgt := 636) hx hb dL_scans_622 (by decide) (fun q => absurd rfl q) (fun _ => ?_)
    refine lv_aload_n hx hb dL_scans_625 rfl (lv_at hl 1 rfl) ?_
    refine lv_iconst (v := 2) hx hb dL_scans_626 (by decide) ?_
    refine lo_call (As := [.int 2]) (v := nI k + 1) (σ' := lo_sq (k + 1)) hB (lo_c_count l D yI yC yO h Ad (lo_sq (k + 1)) u 2 _) (kw_scans_count hts) rfl hl.1 rfl (Nat.le_of_ble_eq_true rfl) dL_scans_627 (Nat.le_of_ble_eq_true rfl) (Nat.le_of_ble_eq_true rfl) f2 rfl hP hD hS (fun u H locs hP hD hS => ?_)
    refine lv_iload_n hx hb dL_scans_630 rfl (lv_at hl 0 rfl) ?_
    refine lv_iconst (v := 1) hx hb dL_scans_631 (by decide) ?_
    refine lv_iadd hx hb dL_scans_632 ?_
    refine lv_icmp_eq (tgt := 638) hx hb dL_scans_633 (by decide) (fun _ => ?_) (fun q => absurd rfl q)
    refine lv_iinc (v := nI k + 1) (lv' := [(3, .int (nI k + 1)), (2, .ref h)]) hx hb dL_scans_638 hl (k := 0) rfl rfl (by decide) rfl (fun ls hl => ?_)
    refine lv_goto (tgt := 611) hx hb dL_scans_641 (by decide) ?_
    rw [nI_1] at hl
    exact ih (k + 1) (by omega) _ _ _ ⟨u, hP, hD, hS⟩ hl
end LOI
set_option maxHeartbeats 4000000 in
set_option maxRecDepth 100000 in
theorem lo_c_scans (l : Launch) (D : va_G) (yI yC yO : ClassId) (sz : Nat) : Met l yL_scans wsL_scans lo_rm_scans (va_Pc [] (lo_M D yI yC yO ([] : va_W) sz)) (lo_Q D 1 (fun (_ : Unit) => ([] : va_W)) (va_A ([] : va_W) sz)) 429 10533 (va_A ([] : va_W) sz) := by
  refine Met.ofW (cc := cL_scans) (maxL := 4) (ret := (some .boolean)) (by decide) rfl ?_
  intro p e s m args below meth c s₁ B0 hml hv
  obtain ⟨rfl, hM⟩ := hv
  have hB : lo_B p s m _ c cL_scans 4 wsL_scans D yI yC yO (va_A ([] : va_W) sz) := lo_B.of B0.exec B0.bytes hml (findClass_of_methodNamed B0.named) (atoms_spec (ws := wsL_scans) B0.pre) hM
  obtain ⟨hP, hD, hS⟩ := hM.S
  have hx := hB.1.1
  have hb := hB.1.2.1
  have hown := hB.1.2.2.2.1
  have hts := hB.1.2.2.2.2
  have hret := B0.returns
  have hlocks := B0.notSynchronized
  have hl := lv_entry ([] : List Value) (n := 4) (Nat.le_of_ble_eq_true rfl)
  rw [lg_entry_eq]
  generalize (lg_sl ([] : List Value) ++ List.replicate (4 - (lg_sl ([] : List Value)).length) Slot.unset).toArray = ls at hl ⊢
  have hl : lv_has ls 4 [] := hl
  generalize hAe : va_A ([] : va_W) sz = A at hB hD hS ⊢
  refine lo_new (wr := []) (rest := []) hB ix_scans (by decide +kernel) (by decide +kernel) (by decide +kernel) (by decide +kernel) (by decide +kernel) gL_scans_X7_init ⟨Nat.le_of_ble_eq_true rfl, Nat.le_of_ble_eq_true rfl⟩ hl.1 (Nat.le_of_ble_eq_true rfl) dL_scans_0 dL_scans_3 dL_scans_4 (Nat.le_of_ble_eq_true rfl) (Nat.le_of_ble_eq_true rfl) hP hD hS (fun h Ad u H locs hP hD hS => ?_)
  have hP : va_P D vwCl (lo_O yI yC yO h Ad lo_t0 u) H := hP
  have hD : va_D A (lo_O yI yC yO h Ad lo_t0 u) := hD
  refine lv_astore_n (lv' := [(0, .ref h)]) hx hb dL_scans_7 rfl hl (by decide) rfl (fun ls hl => ?_)
  refine scans_o1 hB (fun H locs ls hI hl => ?_) _ _ _ ⟨u, hP, hD, hS⟩ hl
  refine scans_o2 hB (fun H locs ls hI hl => ?_) _ _ _ hI hl
  obtain ⟨u, hP, hD, hS⟩ := hI
  have hP : va_P D vwCl ([] : va_W) H := lo_P0
  have hD : va_D A ([] : va_W) := lo_D0
  refine lo_new (wr := []) (rest := []) hB ix_scans (by decide +kernel) (by decide +kernel) (by decide +kernel) (by decide +kernel) (by decide +kernel) gL_scans_X7_init ⟨Nat.le_of_ble_eq_true rfl, Nat.le_of_ble_eq_true rfl⟩ hl.1 (Nat.le_of_ble_eq_true rfl) dL_scans_231 dL_scans_234 dL_scans_235 (Nat.le_of_ble_eq_true rfl) (Nat.le_of_ble_eq_true rfl) hP hD hS (fun h Ad u H locs hP hD hS => ?_)
  have hP : va_P D vwCl (lo_O yI yC yO h Ad lo_t0 u) H := hP
  have hD : va_D A (lo_O yI yC yO h Ad lo_t0 u) := hD
  refine lv_astore_n (lv' := [(1, .ref h), (0, .ref _)]) hx hb dL_scans_238 rfl hl (by decide) rfl (fun ls hl => ?_)
  have hl : lv_has ls 4 [(1, .ref h)] := lv_sub hl [0] rfl
  refine scans_p3 hB (fun H locs ls hI hl => ?_) _ _ _ ⟨u, hP, hD, hS⟩ hl
  refine scans_p4 hB (fun H locs ls hI hl => ?_) _ _ _ hI hl
  refine scans_p5 hB (fun H locs ls hI hl => ?_) _ _ _ hI hl
  obtain ⟨u, hP, hD, hS⟩ := hI
  have hP : va_P D vwCl ([] : va_W) H := lo_P0
  have hD : va_D A ([] : va_W) := lo_D0
  refine lo_new (wr := []) (rest := []) hB ix_scans (by decide +kernel) (by decide +kernel) (by decide +kernel) (by decide +kernel) (by decide +kernel) gL_scans_X7_init ⟨Nat.le_of_ble_eq_true rfl, Nat.le_of_ble_eq_true rfl⟩ hl.1 (Nat.le_of_ble_eq_true rfl) dL_scans_581 dL_scans_584 dL_scans_585 (Nat.le_of_ble_eq_true rfl) (Nat.le_of_ble_eq_true rfl) hP hD hS (fun h Ad u H locs hP hD hS => ?_)
  have hP : va_P D vwCl (lo_O yI yC yO h Ad lo_t0 u) H := hP
  have hD : va_D A (lo_O yI yC yO h Ad lo_t0 u) := hD
  refine lv_astore_n (lv' := [(2, .ref h), (1, .ref _)]) hx hb dL_scans_588 rfl hl (by decide) rfl (fun ls hl => ?_)
  have hl : lv_has ls 4 [(2, .ref h)] := lv_sub hl [0] rfl
  refine scans_q6 hB (fun H locs ls hI hl => ?_) _ _ _ ⟨u, hP, hD, hS⟩ hl
  refine lv_iconst (v := 0) hx hb dL_scans_609 (by decide) ?_
  refine lv_istore_n (lv' := [(3, .int 0), (2, .ref h)]) hx hb dL_scans_610 rfl hl (by decide) rfl (fun ls hl => ?_)
  refine scans_loop hB (h := h) (Ad := Ad) (fun H locs ls hI hl => ?_) 80 0 (by decide) _ _ _ hI hl
  refine scans_r7 hB (fun H locs ls hI hl => ?_) _ _ _ hI hl
  refine scans_r8 hB (fun H locs ls hI hl => ?_) _ _ _ hI hl
  obtain ⟨u, hP, hD, hS⟩ := hI
  exact W.zret (v := 1) hx hb hret lt_z1 (fun t ht hW => ⟨⟨_, (), rfl, rfl, lo_P0, lo_D0⟩, hS.F ht⟩) hS.2.2 dL_scans_763

