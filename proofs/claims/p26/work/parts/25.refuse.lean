abbrev lo_rm_seen : Room := lo_rm7
abbrev lo_rm_refusesAny : Room := { frames := 7, cells := 0, slots := 0, locals := 210 }
theorem kw_refusesAny_count {args : Array Value} {s : State} (hts : ∀ w ∈ wsL_refusesAny, w.before args s = true) : CallW lo_rm_refusesAny s args RL RX7 13 yX7_count cX7_count 2 (some .int) wsX7_count ({ frames := 6, cells := 0, slots := 0, locals := 180 }) 0 0 1 := cwV 1 hts gL_refusesAny_X7_count rfl rfl rfl (by decide +kernel) ⟨Nat.le_of_ble_eq_true rfl, Nat.le_of_ble_eq_true rfl⟩
theorem kw_refusesAny_layBook {args : Array Value} {s : State} (hts : ∀ w ∈ wsL_refusesAny, w.before args s = true) : CallW lo_rm_refusesAny s args RL RX7 33 yX7_layBook cX7_layBook 3 (some .int) wsX7_layBook ({ frames := 5, cells := 0, slots := 0, locals := 150 }) 0 0 2 := cwV 2 hts gL_refusesAny_X7_layBook rfl rfl rfl (by decide +kernel) ⟨Nat.le_of_ble_eq_true rfl, Nat.le_of_ble_eq_true rfl⟩
theorem kw_refusesAny_print {args : Array Value} {s : State} (hts : ∀ w ∈ wsL_refusesAny, w.before args s = true) : CallW lo_rm_refusesAny s args RL RX7 38 yX7_print cX7_print 4 (some .int) wsX7_print ({ frames := 5, cells := 0, slots := 0, locals := 150 }) 0 0 2 := cwV 2 hts gL_refusesAny_X7_print rfl rfl rfl (by decide +kernel) ⟨Nat.le_of_ble_eq_true rfl, Nat.le_of_ble_eq_true rfl⟩
theorem kw_refusesAny_scan {args : Array Value} {s : State} (hts : ∀ w ∈ wsL_refusesAny, w.before args s = true) : CallW lo_rm_refusesAny s args RL RX7 41 yX7_scan cX7_scan 3 (some .int) wsX7_scan ({ frames := 6, cells := 0, slots := 0, locals := 180 }) 0 0 1 := cwV 1 hts gL_refusesAny_X7_scan rfl rfl rfl (by decide +kernel) ⟨Nat.le_of_ble_eq_true rfl, Nat.le_of_ble_eq_true rfl⟩
theorem kw_refusesAny_throwAway {args : Array Value} {s : State} (hts : ∀ w ∈ wsL_refusesAny, w.before args s = true) : CallW lo_rm_refusesAny s args RL RX7 44 yX7_throwAway cX7_throwAway 2 (some .int) wsX7_throwAway ({ frames := 5, cells := 0, slots := 0, locals := 150 }) 0 0 1 := cwV 1 hts gL_refusesAny_X7_throwAway rfl rfl rfl (by decide +kernel) ⟨Nat.le_of_ble_eq_true rfl, Nat.le_of_ble_eq_true rfl⟩
theorem kw_refusesAny_setSuction {args : Array Value} {s : State} (hts : ∀ w ∈ wsL_refusesAny, w.before args s = true) : CallW lo_rm_refusesAny s args RL RX7 47 yX7_setSuction cX7_setSuction 3 (some .int) wsX7_setSuction ({ frames := 5, cells := 0, slots := 0, locals := 150 }) 0 0 1 := cwV 1 hts gL_refusesAny_X7_setSuction rfl rfl rfl (by decide +kernel) ⟨Nat.le_of_ble_eq_true rfl, Nat.le_of_ble_eq_true rfl⟩
theorem kw_refusesAny_set {args : Array Value} {s : State} (hts : ∀ w ∈ wsL_refusesAny, w.before args s = true) : CallW lo_rm_refusesAny s args RL RX7 50 yX7_set cX7_set 4 (some .int) wsX7_set ({ frames := 5, cells := 0, slots := 0, locals := 150 }) 0 0 2 := cwV 2 hts gL_refusesAny_X7_set rfl rfl rfl (by decide +kernel) ⟨Nat.le_of_ble_eq_true rfl, Nat.le_of_ble_eq_true rfl⟩
theorem kw_refusesAny_leaf {args : Array Value} {s : State} (hts : ∀ w ∈ wsL_refusesAny, w.before args s = true) : CallW lo_rm_refusesAny s args RL RX7 19 yX7_leaf cX7_leaf 3 (some .int) wsX7_leaf ({ frames := 2, cells := 0, slots := 0, locals := 60 }) 0 0 2 := cwV 2 hts gL_refusesAny_X7_leaf rfl rfl rfl (by decide +kernel) ⟨Nat.le_of_ble_eq_true rfl, Nat.le_of_ble_eq_true rfl⟩
theorem kw_refusesAny_page {args : Array Value} {s : State} (hts : ∀ w ∈ wsL_refusesAny, w.before args s = true) : CallW lo_rm_refusesAny s args RL RX7 23 yX7_page cX7_page 3 (some .int) wsX7_page ({ frames := 5, cells := 0, slots := 0, locals := 150 }) 0 0 2 := cwV 2 hts gL_refusesAny_X7_page rfl rfl rfl (by decide +kernel) ⟨Nat.le_of_ble_eq_true rfl, Nat.le_of_ble_eq_true rfl⟩
theorem kw_refusesAny_picture {args : Array Value} {s : State} (hts : ∀ w ∈ wsL_refusesAny, w.before args s = true) : CallW lo_rm_refusesAny s args RL RX7 26 yX7_picture cX7_picture 4 (some .int) wsX7_picture ({ frames := 5, cells := 0, slots := 0, locals := 150 }) 0 0 2 := cwV 2 hts gL_refusesAny_X7_picture rfl rfl rfl (by decide +kernel) ⟨Nat.le_of_ble_eq_true rfl, Nat.le_of_ble_eq_true rfl⟩
theorem kw_refusesAny_open {args : Array Value} {s : State} (hts : ∀ w ∈ wsL_refusesAny, w.before args s = true) : CallW lo_rm_refusesAny s args RL RX7 53 yX7_open cX7_open 2 (some .int) wsX7_open ({ frames := 2, cells := 0, slots := 0, locals := 60 }) 0 0 1 := cwV 1 hts gL_refusesAny_X7_open rfl rfl rfl (by decide +kernel) ⟨Nat.le_of_ble_eq_true rfl, Nat.le_of_ble_eq_true rfl⟩
theorem kw_refusesAny_would {args : Array Value} {s : State} (hts : ∀ w ∈ wsL_refusesAny, w.before args s = true) : CallW lo_rm_refusesAny s args RL RX7 56 yX7_would cX7_would 2 (some .int) wsX7_would ({ frames := 3, cells := 0, slots := 0, locals := 90 }) 0 0 1 := cwV 1 hts gL_refusesAny_X7_would rfl rfl rfl (by decide +kernel) ⟨Nat.le_of_ble_eq_true rfl, Nat.le_of_ble_eq_true rfl⟩
theorem kw_refusesAny_lacking {args : Array Value} {s : State} (hts : ∀ w ∈ wsL_refusesAny, w.before args s = true) : CallW lo_rm_refusesAny s args RL RX7 59 yX7_lacking cX7_lacking 2 (some .int) wsX7_lacking ({ frames := 5, cells := 0, slots := 0, locals := 150 }) 0 0 1 := cwV 1 hts gL_refusesAny_X7_lacking rfl rfl rfl (by decide +kernel) ⟨Nat.le_of_ble_eq_true rfl, Nat.le_of_ble_eq_true rfl⟩
set_option maxHeartbeats 4000000 in
set_option maxRecDepth 100000 in
theorem lo_c_refusesAny0 (l : Launch) (D : va_G) (yI yC yO : ClassId) (h : Nat) (Ad : Nat → Nat → Nat) (σ : lo_T) (u : lo_U) (sz : Nat) (hG : lo_G σ) (hz : lt_hz σ.2.1) : Met l yL_refusesAny wsL_refusesAny lo_rm_refusesAny (va_Pc [.ref h, .int 0] (lo_M D yI yC yO (lo_O yI yC yO h Ad σ u) sz)) (lo_Q D 1 (lo_O yI yC yO h Ad σ) (va_A (lo_O yI yC yO h Ad σ u) sz)) 0 0 (va_A (lo_O yI yC yO h Ad σ u) sz) := by
  refine Met.ofW (cc := cL_refusesAny) (maxL := 5) (ret := (some .boolean)) (by decide) rfl ?_
  intro p e s m args below meth c s₁ B0 hml hv
  obtain ⟨rfl, hM⟩ := hv
  have hB : lo_B p s m _ c cL_refusesAny 5 wsL_refusesAny D yI yC yO (va_A (lo_O yI yC yO h Ad σ u) sz) := lo_B.of B0.exec B0.bytes hml (findClass_of_methodNamed B0.named) (atoms_spec (ws := wsL_refusesAny) B0.pre) hM
  obtain ⟨hP, hD, hS⟩ := hM.S
  have hx := hB.1.1
  have hb := hB.1.2.1
  have hown := hB.1.2.2.2.1
  have hts := hB.1.2.2.2.2
  have hret := B0.returns
  have hlocks := B0.notSynchronized
  obtain ⟨L, Z, h1, hL, hZ, eL, eZ⟩ := hG
  have hpL : X0_hasPage (σ.2.2.2.1.1 0) (σ.2.2.2.1.2 0) (σ.2.2.2.1.2 1) (σ.2.2.2.1.2 2) (nI (2 * L)) = 0 := ra_hp2 (nI_pos (by omega)) (by rw [eL, show (2 : Int32) * nI L = nI (2 * L) from pk_mul 2 L]; exact Int32.le_refl _)
  have hp0 : X0_hasPage (σ.2.2.2.1.1 0) (σ.2.2.2.1.2 0) (σ.2.2.2.1.2 1) (σ.2.2.2.1.2 2) 0 = 1 := ra_hp3 (by decide) (by rw [eL, show (2 : Int32) * nI L = nI (2 * L) from pk_mul 2 L]; exact nI_ge (a := 0) (by omega) (by omega))
  have phZ : X5_has (σ.2.2.2.1.1 2) (σ.2.2.2.1.2 3) (σ.2.2.2.1.2 4) (σ.2.2.2.1.2 5) (σ.2.2.2.1.2 6) (nI Z) = 0 := ra_ph2 (nI_pos (by omega)) (by rw [eZ]; exact Int32.le_refl _)
  have h0L : (0 : Int32) < σ.2.2.2.1.1 0 := by rw [eL]; exact nI_lt (a := 0) (by omega) (by omega)
  have hl := lv_entry ([.ref h, .int 0]) (n := 5) (Nat.le_of_ble_eq_true rfl)
  rw [lg_entry_eq]
  generalize (lg_sl ([.ref h, .int 0]) ++ List.replicate (5 - (lg_sl ([.ref h, .int 0])).length) Slot.unset).toArray = ls at hl ⊢
  have hl : lv_has ls 5 [(0, .ref h), (1, .int 0)] := hl
  generalize hAe : va_A (lo_O yI yC yO h Ad σ u) sz = A at hB hD hS ⊢
  refine lv_iload_n hx hb dL_refusesAny_0 rfl (lv_at hl 1 rfl) ?_
  refine lv_if_ne (tgt := 8) hx hb dL_refusesAny_1 (by decide) (fun q => absurd rfl q) (fun _ => ?_)
  refine lv_iconst (v := (-1)) hx hb dL_refusesAny_4 (by decide) ?_
  refine lv_goto (tgt := 13) hx hb dL_refusesAny_5 (by decide) ?_
  refine lv_istore_n (lv' := [(2, .int (-1)), (0, .ref h), (1, .int 0)]) hx hb dL_refusesAny_13 rfl hl (by decide) rfl (fun ls hl => ?_)
  refine lv_iload_n hx hb dL_refusesAny_14 rfl (lv_at hl 2 rfl) ?_
  refine lv_if_ne (tgt := 22) hx hb dL_refusesAny_15 (by decide) (fun q => absurd rfl q) (fun _ => ?_)
  refine lv_iconst (v := (-1)) hx hb dL_refusesAny_18 (by decide) ?_
  refine lv_goto (tgt := 29) hx hb dL_refusesAny_19 (by decide) ?_
  refine lv_istore_n (lv' := [(3, .int (-1)), (2, .int (-1)), (0, .ref h), (1, .int 0)]) hx hb dL_refusesAny_29 rfl hl (by decide) rfl (fun ls hl => ?_)
  refine lv_iload_n hx hb dL_refusesAny_30 rfl (lv_at hl 3 rfl) ?_
  refine lv_if_ne (tgt := 38) hx hb dL_refusesAny_31 (by decide) (fun q => absurd rfl q) (fun _ => ?_)
  refine lv_iconst (v := (-1)) hx hb dL_refusesAny_34 (by decide) ?_
  refine lv_goto (tgt := 43) hx hb dL_refusesAny_35 (by decide) ?_
  refine lv_istore (lv' := [(4, .int (-1)), (3, .int (-1)), (2, .int (-1)), (0, .ref h), (1, .int 0)]) hx hb dL_refusesAny_43 hl (by decide) rfl (fun ls hl => ?_)
  refine lv_aload_n hx hb dL_refusesAny_45 rfl (lv_at hl 3 rfl) ?_
  refine lv_iload_n hx hb dL_refusesAny_46 rfl (lv_at hl 4 rfl) ?_
  refine lv_if_ne (tgt := 54) hx hb dL_refusesAny_47 (by decide) (fun q => absurd rfl q) (fun _ => ?_)
  refine lv_iconst (v := 0) hx hb dL_refusesAny_50 (by decide) ?_
  refine lv_goto (tgt := 56) hx hb dL_refusesAny_51 (by decide) ?_
  refine lv_iconst (v := 0) hx hb dL_refusesAny_56 (by decide) ?_
  refine lo_call (As := [.int 0, .int 0]) (v := (-2)) hB (lo_c_layBook l D yI yC yO h Ad σ u 0 0 _ hz) (kw_refusesAny_layBook hts) rfl hl.1 rfl (Nat.le_of_ble_eq_true rfl) dL_refusesAny_57 (Nat.zero_le _) (Nat.zero_le _) (lo_p2 (ra_lay1 σ (by decide))).1 (lo_p2 (ra_lay1 σ (by decide))).2 hP hD hS (fun u H locs hP hD hS => ?_)
  refine lv_bipush (v := (-2)) hx hb dL_refusesAny_60 (by decide) ?_
  refine lv_icmp_ne (tgt := 257) hx hb dL_refusesAny_62 (by decide) (fun q => absurd rfl q) (fun _ => ?_)
  refine lv_aload_n hx hb dL_refusesAny_65 rfl (lv_at hl 3 rfl) ?_
  refine lv_iconst (v := 1) hx hb dL_refusesAny_66 (by decide) ?_
  refine lv_iload_n hx hb dL_refusesAny_67 rfl (lv_at hl 4 rfl) ?_
  refine lv_if_ne (tgt := 75) hx hb dL_refusesAny_68 (by decide) (fun q => absurd rfl q) (fun _ => ?_)
  refine lv_iconst (v := (-1)) hx hb dL_refusesAny_71 (by decide) ?_
  refine lv_goto (tgt := 78) hx hb dL_refusesAny_72 (by decide) ?_
  refine lo_call (As := [.int 1, .int (-1)]) (v := (-2)) hB (lo_c_layBook l D yI yC yO h Ad σ u 1 (-1) _ hz) (kw_refusesAny_layBook hts) rfl hl.1 rfl (Nat.le_of_ble_eq_true rfl) dL_refusesAny_78 (Nat.zero_le _) (Nat.zero_le _) (lo_p2 (ra_lay3 σ (by decide) (by decide) (by decide))).1 (lo_p2 (ra_lay3 σ (by decide) (by decide) (by decide))).2 hP hD hS (fun u H locs hP hD hS => ?_)
  refine lv_bipush (v := (-2)) hx hb dL_refusesAny_81 (by decide) ?_
  refine lv_icmp_ne (tgt := 257) hx hb dL_refusesAny_83 (by decide) (fun q => absurd rfl q) (fun _ => ?_)
  refine lv_aload_n hx hb dL_refusesAny_86 rfl (lv_at hl 3 rfl) ?_
  refine lv_iload_n hx hb dL_refusesAny_87 rfl (lv_at hl 1 rfl) ?_
  refine lv_sipush (v := 200) hx hb dL_refusesAny_88 (by decide) ?_
  refine lo_call (As := [.int (-1), .int 200]) (v := (-1)) hB (lo_c_print l D yI yC yO h Ad σ u (-1) 200 _ hz) (kw_refusesAny_print hts) rfl hl.1 rfl (Nat.le_of_ble_eq_true rfl) dL_refusesAny_91 (Nat.zero_le _) (Nat.zero_le _) (lo_p2 (ra_print1 σ (ra_hp1 (by decide)))).1 (lo_p2 (ra_print1 σ (ra_hp1 (by decide)))).2 hP hD hS (fun u H locs hP hD hS => ?_)
  refine lv_iconst (v := (-1)) hx hb dL_refusesAny_94 (by decide) ?_
  refine lv_icmp_ne (tgt := 257) hx hb dL_refusesAny_95 (by decide) (fun q => absurd rfl q) (fun _ => ?_)
  refine lv_aload_n hx hb dL_refusesAny_98 rfl (lv_at hl 3 rfl) ?_
  refine lv_iconst (v := 0) hx hb dL_refusesAny_99 (by decide) ?_
  refine lv_iload_n hx hb dL_refusesAny_100 rfl (lv_at hl 4 rfl) ?_
  refine lv_if_ne (tgt := 108) hx hb dL_refusesAny_101 (by decide) (fun q => absurd rfl q) (fun _ => ?_)
  refine lv_iconst (v := (-1)) hx hb dL_refusesAny_104 (by decide) ?_
  refine lv_goto (tgt := 111) hx hb dL_refusesAny_105 (by decide) ?_
  refine lo_call (As := [.int 0, .int (-1)]) (v := (-2)) hB (lo_c_print l D yI yC yO h Ad σ u 0 (-1) _ hz) (kw_refusesAny_print hts) rfl hl.1 rfl (Nat.le_of_ble_eq_true rfl) dL_refusesAny_111 (Nat.zero_le _) (Nat.zero_le _) (lo_p2 (ra_print2 σ hp0 (by decide) (by decide))).1 (lo_p2 (ra_print2 σ hp0 (by decide) (by decide))).2 hP hD hS (fun u H locs hP hD hS => ?_)
  refine lv_bipush (v := (-2)) hx hb dL_refusesAny_114 (by decide) ?_
  refine lv_icmp_ne (tgt := 257) hx hb dL_refusesAny_116 (by decide) (fun q => absurd rfl q) (fun _ => ?_)
  refine lv_aload_n hx hb dL_refusesAny_119 rfl (lv_at hl 3 rfl) ?_
  refine lv_iconst (v := 0) hx hb dL_refusesAny_120 (by decide) ?_
  refine lv_bipush (v := (-6)) hx hb dL_refusesAny_121 (by decide) ?_
  refine lo_call (As := [.int 0, .int (-6)]) (v := (-2)) hB (lo_c_print l D yI yC yO h Ad σ u 0 (-6) _ hz) (kw_refusesAny_print hts) rfl hl.1 rfl (Nat.le_of_ble_eq_true rfl) dL_refusesAny_123 (Nat.zero_le _) (Nat.zero_le _) (lo_p2 (ra_print2 σ hp0 (by decide) (by decide))).1 (lo_p2 (ra_print2 σ hp0 (by decide) (by decide))).2 hP hD hS (fun u H locs hP hD hS => ?_)
  refine lv_bipush (v := (-2)) hx hb dL_refusesAny_126 (by decide) ?_
  refine lv_icmp_ne (tgt := 257) hx hb dL_refusesAny_128 (by decide) (fun q => absurd rfl q) (fun _ => ?_)
  refine lv_aload_n hx hb dL_refusesAny_131 rfl (lv_at hl 3 rfl) ?_
  refine lv_iload_n hx hb dL_refusesAny_132 rfl (lv_at hl 4 rfl) ?_
  refine lv_if_ne (tgt := 140) hx hb dL_refusesAny_133 (by decide) (fun q => absurd rfl q) (fun _ => ?_)
  refine lv_iconst (v := 0) hx hb dL_refusesAny_136 (by decide) ?_
  refine lv_goto (tgt := 142) hx hb dL_refusesAny_137 (by decide) ?_
  refine lo_call (As := [.int 0]) (v := (-2)) hB (lo_c_scan l D yI yC yO h Ad σ u 0 _ hz) (kw_refusesAny_scan hts) rfl hl.1 rfl (Nat.le_of_ble_eq_true rfl) dL_refusesAny_142 (Nat.zero_le _) (Nat.zero_le _) (lo_p2 (ra_scan1 σ (by decide))).1 (lo_p2 (ra_scan1 σ (by decide))).2 hP hD hS (fun u H locs hP hD hS => ?_)
  refine lv_bipush (v := (-2)) hx hb dL_refusesAny_145 (by decide) ?_
  refine lv_icmp_ne (tgt := 257) hx hb dL_refusesAny_147 (by decide) (fun q => absurd rfl q) (fun _ => ?_)
  refine lv_aload_n hx hb dL_refusesAny_150 rfl (lv_at hl 3 rfl) ?_
  refine lv_iload hx hb dL_refusesAny_151 (lv_at hl 0 rfl) ?_
  refine lo_call (As := [.int (-1)]) (v := (-1)) hB (lo_c_throwAway l D yI yC yO h Ad σ u (-1) _ hz) (kw_refusesAny_throwAway hts) rfl hl.1 rfl (Nat.le_of_ble_eq_true rfl) dL_refusesAny_153 (Nat.zero_le _) (Nat.zero_le _) (lo_p2 (ra_throw σ (ra_ph1 (by decide)))).1 (lo_p2 (ra_throw σ (ra_ph1 (by decide)))).2 hP hD hS (fun u H locs hP hD hS => ?_)
  refine lv_iconst (v := (-1)) hx hb dL_refusesAny_156 (by decide) ?_
  refine lv_icmp_ne (tgt := 257) hx hb dL_refusesAny_157 (by decide) (fun q => absurd rfl q) (fun _ => ?_)
  refine lv_aload_n hx hb dL_refusesAny_160 rfl (lv_at hl 3 rfl) ?_
  refine lv_iload_n hx hb dL_refusesAny_161 rfl (lv_at hl 4 rfl) ?_
  refine lv_if_ne (tgt := 169) hx hb dL_refusesAny_162 (by decide) (fun q => absurd rfl q) (fun _ => ?_)
  refine lv_iconst (v := 0) hx hb dL_refusesAny_165 (by decide) ?_
  refine lv_goto (tgt := 171) hx hb dL_refusesAny_166 (by decide) ?_
  refine lo_call (As := [.int 0]) (v := (-2)) hB (lo_c_setSuction l D yI yC yO h Ad σ u 0 _ hz) (kw_refusesAny_setSuction hts) rfl hl.1 rfl (Nat.le_of_ble_eq_true rfl) dL_refusesAny_171 (Nat.zero_le _) (Nat.zero_le _) (lo_p2 (ra_suc σ (by decide))).1 (lo_p2 (ra_suc σ (by decide))).2 hP hD hS (fun u H locs hP hD hS => ?_)
  refine lv_bipush (v := (-2)) hx hb dL_refusesAny_174 (by decide) ?_
  refine lv_icmp_ne (tgt := 257) hx hb dL_refusesAny_176 (by decide) (fun q => absurd rfl q) (fun _ => ?_)
  refine lv_aload_n hx hb dL_refusesAny_179 rfl (lv_at hl 3 rfl) ?_
  refine lv_iload_n hx hb dL_refusesAny_180 rfl (lv_at hl 4 rfl) ?_
  refine lv_if_ne (tgt := 188) hx hb dL_refusesAny_181 (by decide) (fun q => absurd rfl q) (fun _ => ?_)
  refine lv_iconst (v := (-1)) hx hb dL_refusesAny_184 (by decide) ?_
  refine lv_goto (tgt := 189) hx hb dL_refusesAny_185 (by decide) ?_
  refine lv_iconst (v := 0) hx hb dL_refusesAny_189 (by decide) ?_
  refine lo_call (As := [.int (-1), .int 0]) (v := (-2)) hB (lo_c_set l D yI yC yO h Ad σ u (-1) 0 _ hz) (kw_refusesAny_set hts) rfl hl.1 rfl (Nat.le_of_ble_eq_true rfl) dL_refusesAny_190 (Nat.zero_le _) (Nat.zero_le _) (lo_p2 (ra_set1 σ (by decide))).1 (lo_p2 (ra_set1 σ (by decide))).2 hP hD hS (fun u H locs hP hD hS => ?_)
  refine lv_bipush (v := (-2)) hx hb dL_refusesAny_193 (by decide) ?_
  refine lv_icmp_ne (tgt := 257) hx hb dL_refusesAny_195 (by decide) (fun q => absurd rfl q) (fun _ => ?_)
  refine lv_aload_n hx hb dL_refusesAny_198 rfl (lv_at hl 3 rfl) ?_
  refine lv_iconst (v := 0) hx hb dL_refusesAny_199 (by decide) ?_
  refine lv_iload_n hx hb dL_refusesAny_200 rfl (lv_at hl 4 rfl) ?_
  refine lv_if_ne (tgt := 208) hx hb dL_refusesAny_201 (by decide) (fun q => absurd rfl q) (fun _ => ?_)
  refine lv_iconst (v := (-1)) hx hb dL_refusesAny_204 (by decide) ?_
  refine lv_goto (tgt := 210) hx hb dL_refusesAny_205 (by decide) ?_
  refine lo_call (As := [.int 0, .int (-1)]) (v := (-2)) hB (lo_c_set l D yI yC yO h Ad σ u 0 (-1) _ hz) (kw_refusesAny_set hts) rfl hl.1 rfl (Nat.le_of_ble_eq_true rfl) dL_refusesAny_210 (Nat.zero_le _) (Nat.zero_le _) (lo_p2 (ra_set3 σ (by decide) (by decide) (by decide))).1 (lo_p2 (ra_set3 σ (by decide) (by decide) (by decide))).2 hP hD hS (fun u H locs hP hD hS => ?_)
  refine lv_bipush (v := (-2)) hx hb dL_refusesAny_213 (by decide) ?_
  refine lv_icmp_ne (tgt := 257) hx hb dL_refusesAny_215 (by decide) (fun q => absurd rfl q) (fun _ => ?_)
  refine lv_aload_n hx hb dL_refusesAny_218 rfl (lv_at hl 3 rfl) ?_
  refine lv_iconst (v := 1) hx hb dL_refusesAny_219 (by decide) ?_
  refine lv_iload_n hx hb dL_refusesAny_220 rfl (lv_at hl 4 rfl) ?_
  refine lv_if_ne (tgt := 228) hx hb dL_refusesAny_221 (by decide) (fun q => absurd rfl q) (fun _ => ?_)
  refine lv_iconst (v := (-1)) hx hb dL_refusesAny_224 (by decide) ?_
  refine lv_goto (tgt := 229) hx hb dL_refusesAny_225 (by decide) ?_
  refine lo_call (As := [.int 1, .int (-1)]) (v := (-2)) hB (lo_c_set l D yI yC yO h Ad σ u 1 (-1) _ hz) (kw_refusesAny_set hts) rfl hl.1 rfl (Nat.le_of_ble_eq_true rfl) dL_refusesAny_229 (Nat.zero_le _) (Nat.zero_le _) (lo_p2 (ra_set3 σ (by decide) (by decide) (by decide))).1 (lo_p2 (ra_set3 σ (by decide) (by decide) (by decide))).2 hP hD hS (fun u H locs hP hD hS => ?_)
  refine lv_bipush (v := (-2)) hx hb dL_refusesAny_232 (by decide) ?_
  refine lv_icmp_ne (tgt := 257) hx hb dL_refusesAny_234 (by decide) (fun q => absurd rfl q) (fun _ => ?_)
  refine lv_aload_n hx hb dL_refusesAny_237 rfl (lv_at hl 3 rfl) ?_
  refine lv_iconst (v := 2) hx hb dL_refusesAny_238 (by decide) ?_
  refine lv_iload_n hx hb dL_refusesAny_239 rfl (lv_at hl 4 rfl) ?_
  refine lv_if_ne (tgt := 247) hx hb dL_refusesAny_240 (by decide) (fun q => absurd rfl q) (fun _ => ?_)
  refine lv_iconst (v := (-1)) hx hb dL_refusesAny_243 (by decide) ?_
  refine lv_goto (tgt := 249) hx hb dL_refusesAny_244 (by decide) ?_
  refine lo_call (As := [.int 2, .int (-1)]) (v := (-2)) hB (lo_c_set l D yI yC yO h Ad σ u 2 (-1) _ hz) (kw_refusesAny_set hts) rfl hl.1 rfl (Nat.le_of_ble_eq_true rfl) dL_refusesAny_249 (Nat.zero_le _) (Nat.zero_le _) (lo_p2 (ra_set3 σ (by decide) (by decide) (by decide))).1 (lo_p2 (ra_set3 σ (by decide) (by decide) (by decide))).2 hP hD hS (fun u H locs hP hD hS => ?_)
  refine lv_bipush (v := (-2)) hx hb dL_refusesAny_252 (by decide) ?_
  refine lv_icmp_eq (tgt := 259) hx hb dL_refusesAny_254 (by decide) (fun _ => ?_) (fun q => absurd (by decide) q)
  refine lv_aload_n hx hb dL_refusesAny_259 rfl (lv_at hl 3 rfl) ?_
  refine lv_iload_n hx hb dL_refusesAny_260 rfl (lv_at hl 2 rfl) ?_
  refine lv_bipush (v := 9) hx hb dL_refusesAny_261 (by decide) ?_
  refine lo_call (As := [.int (-1), .int 9]) (v := (-1)) hB (lo_c_leaf l D yI yC yO h Ad σ u (-1) 9 _) (kw_refusesAny_leaf hts) rfl hl.1 rfl (Nat.le_of_ble_eq_true rfl) dL_refusesAny_263 (Nat.zero_le _) (Nat.zero_le _) (ra_leaf1 σ (by decide)) rfl hP hD hS (fun u H locs hP hD hS => ?_)
  refine lv_iconst (v := (-1)) hx hb dL_refusesAny_266 (by decide) ?_
  refine lv_icmp_ne (tgt := 431) hx hb dL_refusesAny_267 (by decide) (fun q => absurd rfl q) (fun _ => ?_)
  refine lv_aload_n hx hb dL_refusesAny_270 rfl (lv_at hl 3 rfl) ?_
  refine lv_iconst (v := 0) hx hb dL_refusesAny_271 (by decide) ?_
  refine lv_iload_n hx hb dL_refusesAny_272 rfl (lv_at hl 4 rfl) ?_
  refine lv_if_ne (tgt := 280) hx hb dL_refusesAny_273 (by decide) (fun q => absurd rfl q) (fun _ => ?_)
  refine lv_iconst (v := (-1)) hx hb dL_refusesAny_276 (by decide) ?_
  refine lv_goto (tgt := 281) hx hb dL_refusesAny_277 (by decide) ?_
  refine lo_call (As := [.int 0, .int (-1)]) (v := (-2)) hB (lo_c_leaf l D yI yC yO h Ad σ u 0 (-1) _) (kw_refusesAny_leaf hts) rfl hl.1 rfl (Nat.le_of_ble_eq_true rfl) dL_refusesAny_281 (Nat.zero_le _) (Nat.zero_le _) (ra_leaf3 σ (by decide) h0L (by decide) (by decide) (by decide)) rfl hP hD hS (fun u H locs hP hD hS => ?_)
  refine lv_bipush (v := (-2)) hx hb dL_refusesAny_284 (by decide) ?_
  refine lv_icmp_ne (tgt := 431) hx hb dL_refusesAny_286 (by decide) (fun q => absurd rfl q) (fun _ => ?_)
  refine lv_aload_n hx hb dL_refusesAny_289 rfl (lv_at hl 3 rfl) ?_
  refine lv_iload_n hx hb dL_refusesAny_290 rfl (lv_at hl 1 rfl) ?_
  refine lv_bipush (v := 9) hx hb dL_refusesAny_291 (by decide) ?_
  refine lo_call (As := [.int (-1), .int 9]) (v := (-1)) hB (lo_c_page l D yI yC yO h Ad σ u (-1) 9 _) (kw_refusesAny_page hts) rfl hl.1 rfl (Nat.le_of_ble_eq_true rfl) dL_refusesAny_293 (Nat.zero_le _) (Nat.zero_le _) (ra_page1 σ (ra_hp1 (by decide))) rfl hP hD hS (fun u H locs hP hD hS => ?_)
  refine lv_iconst (v := (-1)) hx hb dL_refusesAny_296 (by decide) ?_
  refine lv_icmp_ne (tgt := 431) hx hb dL_refusesAny_297 (by decide) (fun q => absurd rfl q) (fun _ => ?_)
  refine lv_aload_n hx hb dL_refusesAny_300 rfl (lv_at hl 3 rfl) ?_
  refine lv_iconst (v := 0) hx hb dL_refusesAny_301 (by decide) ?_
  refine lv_iload_n hx hb dL_refusesAny_302 rfl (lv_at hl 4 rfl) ?_
  refine lv_if_ne (tgt := 310) hx hb dL_refusesAny_303 (by decide) (fun q => absurd rfl q) (fun _ => ?_)
  refine lv_iconst (v := (-1)) hx hb dL_refusesAny_306 (by decide) ?_
  refine lv_goto (tgt := 311) hx hb dL_refusesAny_307 (by decide) ?_
  refine lo_call (As := [.int 0, .int (-1)]) (v := (-2)) hB (lo_c_page l D yI yC yO h Ad σ u 0 (-1) _) (kw_refusesAny_page hts) rfl hl.1 rfl (Nat.le_of_ble_eq_true rfl) dL_refusesAny_311 (Nat.zero_le _) (Nat.zero_le _) (ra_page2 σ hp0 (by decide) (by decide) (by decide) (by decide) (by decide)) rfl hP hD hS (fun u H locs hP hD hS => ?_)
  refine lv_bipush (v := (-2)) hx hb dL_refusesAny_314 (by decide) ?_
  refine lv_icmp_ne (tgt := 431) hx hb dL_refusesAny_316 (by decide) (fun q => absurd rfl q) (fun _ => ?_)
  refine lv_aload_n hx hb dL_refusesAny_319 rfl (lv_at hl 3 rfl) ?_
  refine lv_iload hx hb dL_refusesAny_320 (lv_at hl 0 rfl) ?_
  refine lv_bipush (v := 9) hx hb dL_refusesAny_322 (by decide) ?_
  refine lo_call (As := [.int (-1), .int 9]) (v := (-1)) hB (lo_c_picture l D yI yC yO h Ad σ u (-1) 9 _) (kw_refusesAny_picture hts) rfl hl.1 rfl (Nat.le_of_ble_eq_true rfl) dL_refusesAny_324 (Nat.zero_le _) (Nat.zero_le _) (ra_pic1 σ (ra_ph1 (by decide))) rfl hP hD hS (fun u H locs hP hD hS => ?_)
  refine lv_iconst (v := (-1)) hx hb dL_refusesAny_327 (by decide) ?_
  refine lv_icmp_ne (tgt := 431) hx hb dL_refusesAny_328 (by decide) (fun q => absurd rfl q) (fun _ => ?_)
  refine lv_aload_n hx hb dL_refusesAny_331 rfl (lv_at hl 3 rfl) ?_
  refine lv_iconst (v := 2) hx hb dL_refusesAny_332 (by decide) ?_
  refine lo_call (As := [.int 2]) (v := nI Z) hB (lo_c_count l D yI yC yO h Ad σ u 2 _) (kw_refusesAny_count hts) rfl hl.1 rfl (Nat.le_of_ble_eq_true rfl) dL_refusesAny_333 (Nat.zero_le _) (Nat.zero_le _) ((lo_n2 σ).trans eZ) rfl hP hD hS (fun u H locs hP hD hS => ?_)
  have kk : ∀ (u' : lo_U) (H : Heap) (locs : List Loc), va_P D vwCl (lo_O yI yC yO h Ad σ u') H → va_D A (lo_O yI yC yO h Ad σ u') → va_S A s.heap H locs → W p l e lo_rm_refusesAny s m #[Value.ref h, Value.int 0] below meth c H locs 0 0 (MQ below (lo_Q D 1 (lo_O yI yC yO h Ad σ) A) #[Value.ref h, Value.int 0] s 0 0 A) (F0 m 359 ls []) := by
    intro u H locs hP hD hS
    refine lv_aload_n hx hb dL_refusesAny_359 rfl (lv_at hl 3 rfl) ?_
    refine lv_iload_n hx hb dL_refusesAny_360 rfl (lv_at hl 4 rfl) ?_
    refine lv_if_ne (tgt := 368) hx hb dL_refusesAny_361 (by decide) (fun q => absurd rfl q) (fun _ => ?_)
    refine lv_iconst (v := (-1)) hx hb dL_refusesAny_364 (by decide) ?_
    refine lv_goto (tgt := 369) hx hb dL_refusesAny_365 (by decide) ?_
    refine lo_call (As := [.int (-1)]) (v := (-2)) hB (lo_c_open l D yI yC yO h Ad σ u (-1) _) (kw_refusesAny_open hts) rfl hl.1 rfl (Nat.le_of_ble_eq_true rfl) dL_refusesAny_369 (Nat.zero_le _) (Nat.zero_le _) (ra_open σ (by decide) (by decide)) rfl hP hD hS (fun u H locs hP hD hS => ?_)
    refine lv_bipush (v := (-2)) hx hb dL_refusesAny_372 (by decide) ?_
    refine lv_icmp_ne (tgt := 431) hx hb dL_refusesAny_374 (by decide) (fun q => absurd rfl q) (fun _ => ?_)
    refine lv_aload_n hx hb dL_refusesAny_377 rfl (lv_at hl 3 rfl) ?_
    refine lv_iload_n hx hb dL_refusesAny_378 rfl (lv_at hl 4 rfl) ?_
    refine lv_if_ne (tgt := 386) hx hb dL_refusesAny_379 (by decide) (fun q => absurd rfl q) (fun _ => ?_)
    refine lv_iconst (v := 0) hx hb dL_refusesAny_382 (by decide) ?_
    refine lv_goto (tgt := 388) hx hb dL_refusesAny_383 (by decide) ?_
    refine lo_call (As := [.int 0]) (v := (-2)) hB (lo_c_would l D yI yC yO h Ad σ u 0 _) (kw_refusesAny_would hts) rfl hl.1 rfl (Nat.le_of_ble_eq_true rfl) dL_refusesAny_388 (Nat.zero_le _) (Nat.zero_le _) (ra_would σ (by decide)) rfl hP hD hS (fun u H locs hP hD hS => ?_)
    refine lv_bipush (v := (-2)) hx hb dL_refusesAny_391 (by decide) ?_
    refine lv_icmp_ne (tgt := 431) hx hb dL_refusesAny_393 (by decide) (fun q => absurd rfl q) (fun _ => ?_)
    refine lv_aload_n hx hb dL_refusesAny_396 rfl (lv_at hl 3 rfl) ?_
    refine lv_iconst (v := (-1)) hx hb dL_refusesAny_397 (by decide) ?_
    refine lv_iload_n hx hb dL_refusesAny_398 rfl (lv_at hl 4 rfl) ?_
    refine lv_isub hx hb dL_refusesAny_399 ?_
    refine lt_top (y := (-1)) (by decide) ?_
    refine lo_call (As := [.int (-1)]) (v := (-2)) hB (lo_c_lacking l D yI yC yO h Ad σ u (-1) _) (kw_refusesAny_lacking hts) rfl hl.1 rfl (Nat.le_of_ble_eq_true rfl) dL_refusesAny_400 (Nat.zero_le _) (Nat.zero_le _) (ra_lack σ (by decide)) rfl hP hD hS (fun u H locs hP hD hS => ?_)
    refine lv_bipush (v := (-2)) hx hb dL_refusesAny_403 (by decide) ?_
    refine lv_icmp_ne (tgt := 431) hx hb dL_refusesAny_405 (by decide) (fun q => absurd rfl q) (fun _ => ?_)
    refine lv_aload_n hx hb dL_refusesAny_408 rfl (lv_at hl 3 rfl) ?_
    refine lv_iload_n hx hb dL_refusesAny_409 rfl (lv_at hl 4 rfl) ?_
    refine lv_if_ne (tgt := 417) hx hb dL_refusesAny_410 (by decide) (fun q => absurd rfl q) (fun _ => ?_)
    refine lv_iconst (v := (-1)) hx hb dL_refusesAny_413 (by decide) ?_
    refine lv_goto (tgt := 419) hx hb dL_refusesAny_414 (by decide) ?_
    refine lo_call (As := [.int (-1)]) (v := (-2)) hB (lo_c_count l D yI yC yO h Ad σ u (-1) _) (kw_refusesAny_count hts) rfl hl.1 rfl (Nat.le_of_ble_eq_true rfl) dL_refusesAny_419 (Nat.zero_le _) (Nat.zero_le _) (lo_nm1 σ) rfl hP hD hS (fun u H locs hP hD hS => ?_)
    refine lv_bipush (v := (-2)) hx hb dL_refusesAny_422 (by decide) ?_
    refine lv_icmp_ne (tgt := 431) hx hb dL_refusesAny_424 (by decide) (fun q => absurd rfl q) (fun _ => ?_)
    refine lv_iconst (v := 1) hx hb dL_refusesAny_427 (by decide) ?_
    refine lv_goto (tgt := 432) hx hb dL_refusesAny_428 (by decide) ?_
    exact W.zret (v := 1) hx hb hret lt_z1 (fun t ht hW => ⟨⟨_, u, rfl, rfl, by rw [ht]; exact hP, hD⟩, hS.F ht⟩) hS.2.2 dL_refusesAny_432
  refine lv_if_eq (tgt := 359) hx hb dL_refusesAny_336 (by decide) (fun _ => kk _ _ _ hP hD hS) (fun q => ?_)
  have ph0 : X5_has (σ.2.2.2.1.1 2) (σ.2.2.2.1.2 3) (σ.2.2.2.1.2 4) (σ.2.2.2.1.2 5) (σ.2.2.2.1.2 6) 0 = 1 := ra_ph3 (by decide) (by rw [eZ]; rcases Nat.eq_zero_or_pos Z with e | e; exact absurd (by rw [e]; rfl) q; exact nI_ge (a := 0) (by omega) (by omega))
  refine lv_aload_n hx hb dL_refusesAny_339 rfl (lv_at hl 3 rfl) ?_
  refine lv_iconst (v := 0) hx hb dL_refusesAny_340 (by decide) ?_
  refine lv_iload_n hx hb dL_refusesAny_341 rfl (lv_at hl 4 rfl) ?_
  refine lv_if_ne (tgt := 349) hx hb dL_refusesAny_342 (by decide) (fun q => absurd rfl q) (fun _ => ?_)
  refine lv_iconst (v := (-1)) hx hb dL_refusesAny_345 (by decide) ?_
  refine lv_goto (tgt := 351) hx hb dL_refusesAny_346 (by decide) ?_
  refine lo_call (As := [.int 0, .int (-1)]) (v := (-2)) hB (lo_c_picture l D yI yC yO h Ad σ u 0 (-1) _) (kw_refusesAny_picture hts) rfl hl.1 rfl (Nat.le_of_ble_eq_true rfl) dL_refusesAny_351 (Nat.zero_le _) (Nat.zero_le _) (ra_pic2 σ ph0 (by decide) (by decide) (by decide) (by decide) (by decide) (by decide) (by decide)) rfl hP hD hS (fun u H locs hP hD hS => ?_)
  refine lv_bipush (v := (-2)) hx hb dL_refusesAny_354 (by decide) ?_
  refine lv_icmp_ne (tgt := 431) hx hb dL_refusesAny_356 (by decide) (fun q => absurd rfl q) (fun _ => ?_)
  exact kk _ _ _ hP hD hS

set_option maxHeartbeats 4000000 in
set_option maxRecDepth 100000 in
theorem lo_c_refusesAny1 (l : Launch) (D : va_G) (yI yC yO : ClassId) (h : Nat) (Ad : Nat → Nat → Nat) (σ : lo_T) (u : lo_U) (sz : Nat) (hG : lo_G σ) (hz : lt_hz σ.2.1) : Met l yL_refusesAny wsL_refusesAny lo_rm_refusesAny (va_Pc [.ref h, .int 1] (lo_M D yI yC yO (lo_O yI yC yO h Ad σ u) sz)) (lo_Q D 1 (lo_O yI yC yO h Ad σ) (va_A (lo_O yI yC yO h Ad σ u) sz)) 0 0 (va_A (lo_O yI yC yO h Ad σ u) sz) := by
  refine Met.ofW (cc := cL_refusesAny) (maxL := 5) (ret := (some .boolean)) (by decide) rfl ?_
  intro p e s m args below meth c s₁ B0 hml hv
  obtain ⟨rfl, hM⟩ := hv
  have hB : lo_B p s m _ c cL_refusesAny 5 wsL_refusesAny D yI yC yO (va_A (lo_O yI yC yO h Ad σ u) sz) := lo_B.of B0.exec B0.bytes hml (findClass_of_methodNamed B0.named) (atoms_spec (ws := wsL_refusesAny) B0.pre) hM
  obtain ⟨hP, hD, hS⟩ := hM.S
  have hx := hB.1.1
  have hb := hB.1.2.1
  have hown := hB.1.2.2.2.1
  have hts := hB.1.2.2.2.2
  have hret := B0.returns
  have hlocks := B0.notSynchronized
  obtain ⟨L, Z, h1, hL, hZ, eL, eZ⟩ := hG
  have hpL : X0_hasPage (σ.2.2.2.1.1 0) (σ.2.2.2.1.2 0) (σ.2.2.2.1.2 1) (σ.2.2.2.1.2 2) (nI (2 * L)) = 0 := ra_hp2 (nI_pos (by omega)) (by rw [eL, show (2 : Int32) * nI L = nI (2 * L) from pk_mul 2 L]; exact Int32.le_refl _)
  have hp0 : X0_hasPage (σ.2.2.2.1.1 0) (σ.2.2.2.1.2 0) (σ.2.2.2.1.2 1) (σ.2.2.2.1.2 2) 0 = 1 := ra_hp3 (by decide) (by rw [eL, show (2 : Int32) * nI L = nI (2 * L) from pk_mul 2 L]; exact nI_ge (a := 0) (by omega) (by omega))
  have phZ : X5_has (σ.2.2.2.1.1 2) (σ.2.2.2.1.2 3) (σ.2.2.2.1.2 4) (σ.2.2.2.1.2 5) (σ.2.2.2.1.2 6) (nI Z) = 0 := ra_ph2 (nI_pos (by omega)) (by rw [eZ]; exact Int32.le_refl _)
  have h0L : (0 : Int32) < σ.2.2.2.1.1 0 := by rw [eL]; exact nI_lt (a := 0) (by omega) (by omega)
  have hl := lv_entry ([.ref h, .int 1]) (n := 5) (Nat.le_of_ble_eq_true rfl)
  rw [lg_entry_eq]
  generalize (lg_sl ([.ref h, .int 1]) ++ List.replicate (5 - (lg_sl ([.ref h, .int 1])).length) Slot.unset).toArray = ls at hl ⊢
  have hl : lv_has ls 5 [(0, .ref h), (1, .int 1)] := hl
  generalize hAe : va_A (lo_O yI yC yO h Ad σ u) sz = A at hB hD hS ⊢
  refine lv_iload_n hx hb dL_refusesAny_0 rfl (lv_at hl 1 rfl) ?_
  refine lv_if_ne (tgt := 8) hx hb dL_refusesAny_1 (by decide) (fun _ => ?_) (fun q => absurd q (by decide))
  refine lv_aload_n hx hb dL_refusesAny_8 rfl (lv_at hl 0 rfl) ?_
  refine lv_iconst (v := 0) hx hb dL_refusesAny_9 (by decide) ?_
  refine lo_call (As := [.int 0]) (v := nI L) hB (lo_c_count l D yI yC yO h Ad σ u 0 _) (kw_refusesAny_count hts) rfl hl.1 rfl (Nat.le_of_ble_eq_true rfl) dL_refusesAny_10 (Nat.zero_le _) (Nat.zero_le _) ((lo_n0 σ).trans eL) rfl hP hD hS (fun u H locs hP hD hS => ?_)
  refine lv_istore_n (lv' := [(2, .int (nI L)), (0, .ref h), (1, .int 1)]) hx hb dL_refusesAny_13 rfl hl (by decide) rfl (fun ls hl => ?_)
  refine lv_iload_n hx hb dL_refusesAny_14 rfl (lv_at hl 2 rfl) ?_
  refine lv_if_ne (tgt := 22) hx hb dL_refusesAny_15 (by decide) (fun _ => ?_) (fun q => absurd q (by decide))
  refine lv_iconst (v := 2) hx hb dL_refusesAny_22 (by decide) ?_
  refine lv_aload_n hx hb dL_refusesAny_23 rfl (lv_at hl 1 rfl) ?_
  refine lv_iconst (v := 0) hx hb dL_refusesAny_24 (by decide) ?_
  refine lo_call (As := [.int 0]) (v := nI L) hB (lo_c_count l D yI yC yO h Ad σ u 0 _) (kw_refusesAny_count hts) rfl hl.1 rfl (Nat.le_of_ble_eq_true rfl) dL_refusesAny_25 (Nat.zero_le _) (Nat.zero_le _) ((lo_n0 σ).trans eL) rfl hP hD hS (fun u H locs hP hD hS => ?_)
  refine lv_imul hx hb dL_refusesAny_28 ?_
  refine lt_top (y := nI (2 * L)) (pk_mul 2 L) ?_
  refine lv_istore_n (lv' := [(3, .int (nI (2 * L))), (2, .int (nI L)), (0, .ref h), (1, .int 1)]) hx hb dL_refusesAny_29 rfl hl (by decide) rfl (fun ls hl => ?_)
  refine lv_iload_n hx hb dL_refusesAny_30 rfl (lv_at hl 3 rfl) ?_
  refine lv_if_ne (tgt := 38) hx hb dL_refusesAny_31 (by decide) (fun _ => ?_) (fun q => absurd q (by decide))
  refine lv_aload_n hx hb dL_refusesAny_38 rfl (lv_at hl 2 rfl) ?_
  refine lv_iconst (v := 2) hx hb dL_refusesAny_39 (by decide) ?_
  refine lo_call (As := [.int 2]) (v := nI Z) hB (lo_c_count l D yI yC yO h Ad σ u 2 _) (kw_refusesAny_count hts) rfl hl.1 rfl (Nat.le_of_ble_eq_true rfl) dL_refusesAny_40 (Nat.zero_le _) (Nat.zero_le _) ((lo_n2 σ).trans eZ) rfl hP hD hS (fun u H locs hP hD hS => ?_)
  refine lv_istore (lv' := [(4, .int (nI Z)), (3, .int (nI (2 * L))), (2, .int (nI L)), (0, .ref h), (1, .int 1)]) hx hb dL_refusesAny_43 hl (by decide) rfl (fun ls hl => ?_)
  refine lv_aload_n hx hb dL_refusesAny_45 rfl (lv_at hl 3 rfl) ?_
  refine lv_iload_n hx hb dL_refusesAny_46 rfl (lv_at hl 4 rfl) ?_
  refine lv_if_ne (tgt := 54) hx hb dL_refusesAny_47 (by decide) (fun _ => ?_) (fun q => absurd q (by decide))
  refine lv_bipush (v := 31) hx hb dL_refusesAny_54 (by decide) ?_
  refine lv_iconst (v := 0) hx hb dL_refusesAny_56 (by decide) ?_
  refine lo_call (As := [.int 31, .int 0]) (v := (-2)) hB (lo_c_layBook l D yI yC yO h Ad σ u 31 0 _ hz) (kw_refusesAny_layBook hts) rfl hl.1 rfl (Nat.le_of_ble_eq_true rfl) dL_refusesAny_57 (Nat.zero_le _) (Nat.zero_le _) (lo_p2 (ra_lay2 σ (by decide) (by decide))).1 (lo_p2 (ra_lay2 σ (by decide) (by decide))).2 hP hD hS (fun u H locs hP hD hS => ?_)
  refine lv_bipush (v := (-2)) hx hb dL_refusesAny_60 (by decide) ?_
  refine lv_icmp_ne (tgt := 257) hx hb dL_refusesAny_62 (by decide) (fun q => absurd rfl q) (fun _ => ?_)
  refine lv_aload_n hx hb dL_refusesAny_65 rfl (lv_at hl 3 rfl) ?_
  refine lv_iconst (v := 1) hx hb dL_refusesAny_66 (by decide) ?_
  refine lv_iload_n hx hb dL_refusesAny_67 rfl (lv_at hl 4 rfl) ?_
  refine lv_if_ne (tgt := 75) hx hb dL_refusesAny_68 (by decide) (fun _ => ?_) (fun q => absurd q (by decide))
  refine lv_sipush (v := 10000) hx hb dL_refusesAny_75 (by decide) ?_
  refine lo_call (As := [.int 1, .int 10000]) (v := (-2)) hB (lo_c_layBook l D yI yC yO h Ad σ u 1 10000 _ hz) (kw_refusesAny_layBook hts) rfl hl.1 rfl (Nat.le_of_ble_eq_true rfl) dL_refusesAny_78 (Nat.zero_le _) (Nat.zero_le _) (lo_p2 (ra_lay4 σ (by decide) (by decide) (by decide) (by decide))).1 (lo_p2 (ra_lay4 σ (by decide) (by decide) (by decide) (by decide))).2 hP hD hS (fun u H locs hP hD hS => ?_)
  refine lv_bipush (v := (-2)) hx hb dL_refusesAny_81 (by decide) ?_
  refine lv_icmp_ne (tgt := 257) hx hb dL_refusesAny_83 (by decide) (fun q => absurd rfl q) (fun _ => ?_)
  refine lv_aload_n hx hb dL_refusesAny_86 rfl (lv_at hl 3 rfl) ?_
  refine lv_iload_n hx hb dL_refusesAny_87 rfl (lv_at hl 1 rfl) ?_
  refine lv_sipush (v := 200) hx hb dL_refusesAny_88 (by decide) ?_
  refine lo_call (As := [.int (nI (2 * L)), .int 200]) (v := (-1)) hB (lo_c_print l D yI yC yO h Ad σ u (nI (2 * L)) 200 _ hz) (kw_refusesAny_print hts) rfl hl.1 rfl (Nat.le_of_ble_eq_true rfl) dL_refusesAny_91 (Nat.zero_le _) (Nat.zero_le _) (lo_p2 (ra_print1 σ hpL)).1 (lo_p2 (ra_print1 σ hpL)).2 hP hD hS (fun u H locs hP hD hS => ?_)
  refine lv_iconst (v := (-1)) hx hb dL_refusesAny_94 (by decide) ?_
  refine lv_icmp_ne (tgt := 257) hx hb dL_refusesAny_95 (by decide) (fun q => absurd rfl q) (fun _ => ?_)
  refine lv_aload_n hx hb dL_refusesAny_98 rfl (lv_at hl 3 rfl) ?_
  refine lv_iconst (v := 0) hx hb dL_refusesAny_99 (by decide) ?_
  refine lv_iload_n hx hb dL_refusesAny_100 rfl (lv_at hl 4 rfl) ?_
  refine lv_if_ne (tgt := 108) hx hb dL_refusesAny_101 (by decide) (fun _ => ?_) (fun q => absurd q (by decide))
  refine lv_sipush (v := 200) hx hb dL_refusesAny_108 (by decide) ?_
  refine lo_call (As := [.int 0, .int 200]) (v := (-2)) hB (lo_c_print l D yI yC yO h Ad σ u 0 200 _ hz) (kw_refusesAny_print hts) rfl hl.1 rfl (Nat.le_of_ble_eq_true rfl) dL_refusesAny_111 (Nat.zero_le _) (Nat.zero_le _) (lo_p2 (ra_print3 σ hp0 (by decide) (by decide) (by decide))).1 (lo_p2 (ra_print3 σ hp0 (by decide) (by decide) (by decide))).2 hP hD hS (fun u H locs hP hD hS => ?_)
  refine lv_bipush (v := (-2)) hx hb dL_refusesAny_114 (by decide) ?_
  refine lv_icmp_ne (tgt := 257) hx hb dL_refusesAny_116 (by decide) (fun q => absurd rfl q) (fun _ => ?_)
  refine lv_aload_n hx hb dL_refusesAny_119 rfl (lv_at hl 3 rfl) ?_
  refine lv_iconst (v := 0) hx hb dL_refusesAny_120 (by decide) ?_
  refine lv_bipush (v := (-6)) hx hb dL_refusesAny_121 (by decide) ?_
  refine lo_call (As := [.int 0, .int (-6)]) (v := (-2)) hB (lo_c_print l D yI yC yO h Ad σ u 0 (-6) _ hz) (kw_refusesAny_print hts) rfl hl.1 rfl (Nat.le_of_ble_eq_true rfl) dL_refusesAny_123 (Nat.zero_le _) (Nat.zero_le _) (lo_p2 (ra_print2 σ hp0 (by decide) (by decide))).1 (lo_p2 (ra_print2 σ hp0 (by decide) (by decide))).2 hP hD hS (fun u H locs hP hD hS => ?_)
  refine lv_bipush (v := (-2)) hx hb dL_refusesAny_126 (by decide) ?_
  refine lv_icmp_ne (tgt := 257) hx hb dL_refusesAny_128 (by decide) (fun q => absurd rfl q) (fun _ => ?_)
  refine lv_aload_n hx hb dL_refusesAny_131 rfl (lv_at hl 3 rfl) ?_
  refine lv_iload_n hx hb dL_refusesAny_132 rfl (lv_at hl 4 rfl) ?_
  refine lv_if_ne (tgt := 140) hx hb dL_refusesAny_133 (by decide) (fun _ => ?_) (fun q => absurd q (by decide))
  refine lv_bipush (v := 61) hx hb dL_refusesAny_140 (by decide) ?_
  refine lo_call (As := [.int 61]) (v := (-2)) hB (lo_c_scan l D yI yC yO h Ad σ u 61 _ hz) (kw_refusesAny_scan hts) rfl hl.1 rfl (Nat.le_of_ble_eq_true rfl) dL_refusesAny_142 (Nat.zero_le _) (Nat.zero_le _) (lo_p2 (ra_scan2 σ (by decide) (by decide))).1 (lo_p2 (ra_scan2 σ (by decide) (by decide))).2 hP hD hS (fun u H locs hP hD hS => ?_)
  refine lv_bipush (v := (-2)) hx hb dL_refusesAny_145 (by decide) ?_
  refine lv_icmp_ne (tgt := 257) hx hb dL_refusesAny_147 (by decide) (fun q => absurd rfl q) (fun _ => ?_)
  refine lv_aload_n hx hb dL_refusesAny_150 rfl (lv_at hl 3 rfl) ?_
  refine lv_iload hx hb dL_refusesAny_151 (lv_at hl 0 rfl) ?_
  refine lo_call (As := [.int (nI Z)]) (v := (-1)) hB (lo_c_throwAway l D yI yC yO h Ad σ u (nI Z) _ hz) (kw_refusesAny_throwAway hts) rfl hl.1 rfl (Nat.le_of_ble_eq_true rfl) dL_refusesAny_153 (Nat.zero_le _) (Nat.zero_le _) (lo_p2 (ra_throw σ phZ)).1 (lo_p2 (ra_throw σ phZ)).2 hP hD hS (fun u H locs hP hD hS => ?_)
  refine lv_iconst (v := (-1)) hx hb dL_refusesAny_156 (by decide) ?_
  refine lv_icmp_ne (tgt := 257) hx hb dL_refusesAny_157 (by decide) (fun q => absurd rfl q) (fun _ => ?_)
  refine lv_aload_n hx hb dL_refusesAny_160 rfl (lv_at hl 3 rfl) ?_
  refine lv_iload_n hx hb dL_refusesAny_161 rfl (lv_at hl 4 rfl) ?_
  refine lv_if_ne (tgt := 169) hx hb dL_refusesAny_162 (by decide) (fun _ => ?_) (fun q => absurd q (by decide))
  refine lv_bipush (v := 21) hx hb dL_refusesAny_169 (by decide) ?_
  refine lo_call (As := [.int 21]) (v := (-2)) hB (lo_c_setSuction l D yI yC yO h Ad σ u 21 _ hz) (kw_refusesAny_setSuction hts) rfl hl.1 rfl (Nat.le_of_ble_eq_true rfl) dL_refusesAny_171 (Nat.zero_le _) (Nat.zero_le _) (lo_p2 (ra_suc σ (by decide))).1 (lo_p2 (ra_suc σ (by decide))).2 hP hD hS (fun u H locs hP hD hS => ?_)
  refine lv_bipush (v := (-2)) hx hb dL_refusesAny_174 (by decide) ?_
  refine lv_icmp_ne (tgt := 257) hx hb dL_refusesAny_176 (by decide) (fun q => absurd rfl q) (fun _ => ?_)
  refine lv_aload_n hx hb dL_refusesAny_179 rfl (lv_at hl 3 rfl) ?_
  refine lv_iload_n hx hb dL_refusesAny_180 rfl (lv_at hl 4 rfl) ?_
  refine lv_if_ne (tgt := 188) hx hb dL_refusesAny_181 (by decide) (fun _ => ?_) (fun q => absurd q (by decide))
  refine lv_iconst (v := 3) hx hb dL_refusesAny_188 (by decide) ?_
  refine lv_iconst (v := 0) hx hb dL_refusesAny_189 (by decide) ?_
  refine lo_call (As := [.int 3, .int 0]) (v := (-2)) hB (lo_c_set l D yI yC yO h Ad σ u 3 0 _ hz) (kw_refusesAny_set hts) rfl hl.1 rfl (Nat.le_of_ble_eq_true rfl) dL_refusesAny_190 (Nat.zero_le _) (Nat.zero_le _) (lo_p2 (ra_set2 σ (by decide) (by decide))).1 (lo_p2 (ra_set2 σ (by decide) (by decide))).2 hP hD hS (fun u H locs hP hD hS => ?_)
  refine lv_bipush (v := (-2)) hx hb dL_refusesAny_193 (by decide) ?_
  refine lv_icmp_ne (tgt := 257) hx hb dL_refusesAny_195 (by decide) (fun q => absurd rfl q) (fun _ => ?_)
  refine lv_aload_n hx hb dL_refusesAny_198 rfl (lv_at hl 3 rfl) ?_
  refine lv_iconst (v := 0) hx hb dL_refusesAny_199 (by decide) ?_
  refine lv_iload_n hx hb dL_refusesAny_200 rfl (lv_at hl 4 rfl) ?_
  refine lv_if_ne (tgt := 208) hx hb dL_refusesAny_201 (by decide) (fun _ => ?_) (fun q => absurd q (by decide))
  refine lv_bipush (v := 11) hx hb dL_refusesAny_208 (by decide) ?_
  refine lo_call (As := [.int 0, .int 11]) (v := (-2)) hB (lo_c_set l D yI yC yO h Ad σ u 0 11 _ hz) (kw_refusesAny_set hts) rfl hl.1 rfl (Nat.le_of_ble_eq_true rfl) dL_refusesAny_210 (Nat.zero_le _) (Nat.zero_le _) (lo_p2 (ra_set4 σ (by decide) (by decide) (by decide) (by decide))).1 (lo_p2 (ra_set4 σ (by decide) (by decide) (by decide) (by decide))).2 hP hD hS (fun u H locs hP hD hS => ?_)
  refine lv_bipush (v := (-2)) hx hb dL_refusesAny_213 (by decide) ?_
  refine lv_icmp_ne (tgt := 257) hx hb dL_refusesAny_215 (by decide) (fun q => absurd rfl q) (fun _ => ?_)
  refine lv_aload_n hx hb dL_refusesAny_218 rfl (lv_at hl 3 rfl) ?_
  refine lv_iconst (v := 1) hx hb dL_refusesAny_219 (by decide) ?_
  refine lv_iload_n hx hb dL_refusesAny_220 rfl (lv_at hl 4 rfl) ?_
  refine lv_if_ne (tgt := 228) hx hb dL_refusesAny_221 (by decide) (fun _ => ?_) (fun q => absurd q (by decide))
  refine lv_iconst (v := 2) hx hb dL_refusesAny_228 (by decide) ?_
  refine lo_call (As := [.int 1, .int 2]) (v := (-2)) hB (lo_c_set l D yI yC yO h Ad σ u 1 2 _ hz) (kw_refusesAny_set hts) rfl hl.1 rfl (Nat.le_of_ble_eq_true rfl) dL_refusesAny_229 (Nat.zero_le _) (Nat.zero_le _) (lo_p2 (ra_set4 σ (by decide) (by decide) (by decide) (by decide))).1 (lo_p2 (ra_set4 σ (by decide) (by decide) (by decide) (by decide))).2 hP hD hS (fun u H locs hP hD hS => ?_)
  refine lv_bipush (v := (-2)) hx hb dL_refusesAny_232 (by decide) ?_
  refine lv_icmp_ne (tgt := 257) hx hb dL_refusesAny_234 (by decide) (fun q => absurd rfl q) (fun _ => ?_)
  refine lv_aload_n hx hb dL_refusesAny_237 rfl (lv_at hl 3 rfl) ?_
  refine lv_iconst (v := 2) hx hb dL_refusesAny_238 (by decide) ?_
  refine lv_iload_n hx hb dL_refusesAny_239 rfl (lv_at hl 4 rfl) ?_
  refine lv_if_ne (tgt := 247) hx hb dL_refusesAny_240 (by decide) (fun _ => ?_) (fun q => absurd q (by decide))
  refine lv_bipush (v := 100) hx hb dL_refusesAny_247 (by decide) ?_
  refine lo_call (As := [.int 2, .int 100]) (v := (-2)) hB (lo_c_set l D yI yC yO h Ad σ u 2 100 _ hz) (kw_refusesAny_set hts) rfl hl.1 rfl (Nat.le_of_ble_eq_true rfl) dL_refusesAny_249 (Nat.zero_le _) (Nat.zero_le _) (lo_p2 (ra_set4 σ (by decide) (by decide) (by decide) (by decide))).1 (lo_p2 (ra_set4 σ (by decide) (by decide) (by decide) (by decide))).2 hP hD hS (fun u H locs hP hD hS => ?_)
  refine lv_bipush (v := (-2)) hx hb dL_refusesAny_252 (by decide) ?_
  refine lv_icmp_eq (tgt := 259) hx hb dL_refusesAny_254 (by decide) (fun _ => ?_) (fun q => absurd (by decide) q)
  refine lv_aload_n hx hb dL_refusesAny_259 rfl (lv_at hl 3 rfl) ?_
  refine lv_iload_n hx hb dL_refusesAny_260 rfl (lv_at hl 2 rfl) ?_
  refine lv_bipush (v := 9) hx hb dL_refusesAny_261 (by decide) ?_
  refine lo_call (As := [.int (nI L), .int 9]) (v := (-1)) hB (lo_c_leaf l D yI yC yO h Ad σ u (nI L) 9 _) (kw_refusesAny_leaf hts) rfl hl.1 rfl (Nat.le_of_ble_eq_true rfl) dL_refusesAny_263 (Nat.zero_le _) (Nat.zero_le _) (ra_leaf2 σ (nI_pos (by omega)) (by rw [eL]; exact Int32.lt_irrefl)) rfl hP hD hS (fun u H locs hP hD hS => ?_)
  refine lv_iconst (v := (-1)) hx hb dL_refusesAny_266 (by decide) ?_
  refine lv_icmp_ne (tgt := 431) hx hb dL_refusesAny_267 (by decide) (fun q => absurd rfl q) (fun _ => ?_)
  refine lv_aload_n hx hb dL_refusesAny_270 rfl (lv_at hl 3 rfl) ?_
  refine lv_iconst (v := 0) hx hb dL_refusesAny_271 (by decide) ?_
  refine lv_iload_n hx hb dL_refusesAny_272 rfl (lv_at hl 4 rfl) ?_
  refine lv_if_ne (tgt := 280) hx hb dL_refusesAny_273 (by decide) (fun _ => ?_) (fun q => absurd q (by decide))
  refine lv_iconst (v := 3) hx hb dL_refusesAny_280 (by decide) ?_
  refine lo_call (As := [.int 0, .int 3]) (v := (-2)) hB (lo_c_leaf l D yI yC yO h Ad σ u 0 3 _) (kw_refusesAny_leaf hts) rfl hl.1 rfl (Nat.le_of_ble_eq_true rfl) dL_refusesAny_281 (Nat.zero_le _) (Nat.zero_le _) (ra_leaf3 σ (by decide) h0L (by decide) (by decide) (by decide)) rfl hP hD hS (fun u H locs hP hD hS => ?_)
  refine lv_bipush (v := (-2)) hx hb dL_refusesAny_284 (by decide) ?_
  refine lv_icmp_ne (tgt := 431) hx hb dL_refusesAny_286 (by decide) (fun q => absurd rfl q) (fun _ => ?_)
  refine lv_aload_n hx hb dL_refusesAny_289 rfl (lv_at hl 3 rfl) ?_
  refine lv_iload_n hx hb dL_refusesAny_290 rfl (lv_at hl 1 rfl) ?_
  refine lv_bipush (v := 9) hx hb dL_refusesAny_291 (by decide) ?_
  refine lo_call (As := [.int (nI (2 * L)), .int 9]) (v := (-1)) hB (lo_c_page l D yI yC yO h Ad σ u (nI (2 * L)) 9 _) (kw_refusesAny_page hts) rfl hl.1 rfl (Nat.le_of_ble_eq_true rfl) dL_refusesAny_293 (Nat.zero_le _) (Nat.zero_le _) (ra_page1 σ hpL) rfl hP hD hS (fun u H locs hP hD hS => ?_)
  refine lv_iconst (v := (-1)) hx hb dL_refusesAny_296 (by decide) ?_
  refine lv_icmp_ne (tgt := 431) hx hb dL_refusesAny_297 (by decide) (fun q => absurd rfl q) (fun _ => ?_)
  refine lv_aload_n hx hb dL_refusesAny_300 rfl (lv_at hl 3 rfl) ?_
  refine lv_iconst (v := 0) hx hb dL_refusesAny_301 (by decide) ?_
  refine lv_iload_n hx hb dL_refusesAny_302 rfl (lv_at hl 4 rfl) ?_
  refine lv_if_ne (tgt := 310) hx hb dL_refusesAny_303 (by decide) (fun _ => ?_) (fun q => absurd q (by decide))
  refine lv_iconst (v := 5) hx hb dL_refusesAny_310 (by decide) ?_
  refine lo_call (As := [.int 0, .int 5]) (v := (-2)) hB (lo_c_page l D yI yC yO h Ad σ u 0 5 _) (kw_refusesAny_page hts) rfl hl.1 rfl (Nat.le_of_ble_eq_true rfl) dL_refusesAny_311 (Nat.zero_le _) (Nat.zero_le _) (ra_page2 σ hp0 (by decide) (by decide) (by decide) (by decide) (by decide)) rfl hP hD hS (fun u H locs hP hD hS => ?_)
  refine lv_bipush (v := (-2)) hx hb dL_refusesAny_314 (by decide) ?_
  refine lv_icmp_ne (tgt := 431) hx hb dL_refusesAny_316 (by decide) (fun q => absurd rfl q) (fun _ => ?_)
  refine lv_aload_n hx hb dL_refusesAny_319 rfl (lv_at hl 3 rfl) ?_
  refine lv_iload hx hb dL_refusesAny_320 (lv_at hl 0 rfl) ?_
  refine lv_bipush (v := 9) hx hb dL_refusesAny_322 (by decide) ?_
  refine lo_call (As := [.int (nI Z), .int 9]) (v := (-1)) hB (lo_c_picture l D yI yC yO h Ad σ u (nI Z) 9 _) (kw_refusesAny_picture hts) rfl hl.1 rfl (Nat.le_of_ble_eq_true rfl) dL_refusesAny_324 (Nat.zero_le _) (Nat.zero_le _) (ra_pic1 σ phZ) rfl hP hD hS (fun u H locs hP hD hS => ?_)
  refine lv_iconst (v := (-1)) hx hb dL_refusesAny_327 (by decide) ?_
  refine lv_icmp_ne (tgt := 431) hx hb dL_refusesAny_328 (by decide) (fun q => absurd rfl q) (fun _ => ?_)
  refine lv_aload_n hx hb dL_refusesAny_331 rfl (lv_at hl 3 rfl) ?_
  refine lv_iconst (v := 2) hx hb dL_refusesAny_332 (by decide) ?_
  refine lo_call (As := [.int 2]) (v := nI Z) hB (lo_c_count l D yI yC yO h Ad σ u 2 _) (kw_refusesAny_count hts) rfl hl.1 rfl (Nat.le_of_ble_eq_true rfl) dL_refusesAny_333 (Nat.zero_le _) (Nat.zero_le _) ((lo_n2 σ).trans eZ) rfl hP hD hS (fun u H locs hP hD hS => ?_)
  have kk : ∀ (u' : lo_U) (H : Heap) (locs : List Loc), va_P D vwCl (lo_O yI yC yO h Ad σ u') H → va_D A (lo_O yI yC yO h Ad σ u') → va_S A s.heap H locs → W p l e lo_rm_refusesAny s m #[Value.ref h, Value.int 1] below meth c H locs 0 0 (MQ below (lo_Q D 1 (lo_O yI yC yO h Ad σ) A) #[Value.ref h, Value.int 1] s 0 0 A) (F0 m 359 ls []) := by
    intro u H locs hP hD hS
    refine lv_aload_n hx hb dL_refusesAny_359 rfl (lv_at hl 3 rfl) ?_
    refine lv_iload_n hx hb dL_refusesAny_360 rfl (lv_at hl 4 rfl) ?_
    refine lv_if_ne (tgt := 368) hx hb dL_refusesAny_361 (by decide) (fun _ => ?_) (fun q => absurd q (by decide))
    refine lv_iconst (v := 2) hx hb dL_refusesAny_368 (by decide) ?_
    refine lo_call (As := [.int 2]) (v := (-2)) hB (lo_c_open l D yI yC yO h Ad σ u 2 _) (kw_refusesAny_open hts) rfl hl.1 rfl (Nat.le_of_ble_eq_true rfl) dL_refusesAny_369 (Nat.zero_le _) (Nat.zero_le _) (ra_open σ (by decide) (by decide)) rfl hP hD hS (fun u H locs hP hD hS => ?_)
    refine lv_bipush (v := (-2)) hx hb dL_refusesAny_372 (by decide) ?_
    refine lv_icmp_ne (tgt := 431) hx hb dL_refusesAny_374 (by decide) (fun q => absurd rfl q) (fun _ => ?_)
    refine lv_aload_n hx hb dL_refusesAny_377 rfl (lv_at hl 3 rfl) ?_
    refine lv_iload_n hx hb dL_refusesAny_378 rfl (lv_at hl 4 rfl) ?_
    refine lv_if_ne (tgt := 386) hx hb dL_refusesAny_379 (by decide) (fun _ => ?_) (fun q => absurd q (by decide))
    refine lv_bipush (v := 21) hx hb dL_refusesAny_386 (by decide) ?_
    refine lo_call (As := [.int 21]) (v := (-2)) hB (lo_c_would l D yI yC yO h Ad σ u 21 _) (kw_refusesAny_would hts) rfl hl.1 rfl (Nat.le_of_ble_eq_true rfl) dL_refusesAny_388 (Nat.zero_le _) (Nat.zero_le _) (ra_would σ (by decide)) rfl hP hD hS (fun u H locs hP hD hS => ?_)
    refine lv_bipush (v := (-2)) hx hb dL_refusesAny_391 (by decide) ?_
    refine lv_icmp_ne (tgt := 431) hx hb dL_refusesAny_393 (by decide) (fun q => absurd rfl q) (fun _ => ?_)
    refine lv_aload_n hx hb dL_refusesAny_396 rfl (lv_at hl 3 rfl) ?_
    refine lv_iconst (v := (-1)) hx hb dL_refusesAny_397 (by decide) ?_
    refine lv_iload_n hx hb dL_refusesAny_398 rfl (lv_at hl 4 rfl) ?_
    refine lv_isub hx hb dL_refusesAny_399 ?_
    refine lt_top (y := (-2)) (by decide) ?_
    refine lo_call (As := [.int (-2)]) (v := (-2)) hB (lo_c_lacking l D yI yC yO h Ad σ u (-2) _) (kw_refusesAny_lacking hts) rfl hl.1 rfl (Nat.le_of_ble_eq_true rfl) dL_refusesAny_400 (Nat.zero_le _) (Nat.zero_le _) (ra_lack σ (by decide)) rfl hP hD hS (fun u H locs hP hD hS => ?_)
    refine lv_bipush (v := (-2)) hx hb dL_refusesAny_403 (by decide) ?_
    refine lv_icmp_ne (tgt := 431) hx hb dL_refusesAny_405 (by decide) (fun q => absurd rfl q) (fun _ => ?_)
    refine lv_aload_n hx hb dL_refusesAny_408 rfl (lv_at hl 3 rfl) ?_
    refine lv_iload_n hx hb dL_refusesAny_409 rfl (lv_at hl 4 rfl) ?_
    refine lv_if_ne (tgt := 417) hx hb dL_refusesAny_410 (by decide) (fun _ => ?_) (fun q => absurd q (by decide))
    refine lv_bipush (v := 17) hx hb dL_refusesAny_417 (by decide) ?_
    refine lo_call (As := [.int 17]) (v := (-2)) hB (lo_c_count l D yI yC yO h Ad σ u 17 _) (kw_refusesAny_count hts) rfl hl.1 rfl (Nat.le_of_ble_eq_true rfl) dL_refusesAny_419 (Nat.zero_le _) (Nat.zero_le _) (lo_n17 σ) rfl hP hD hS (fun u H locs hP hD hS => ?_)
    refine lv_bipush (v := (-2)) hx hb dL_refusesAny_422 (by decide) ?_
    refine lv_icmp_ne (tgt := 431) hx hb dL_refusesAny_424 (by decide) (fun q => absurd rfl q) (fun _ => ?_)
    refine lv_iconst (v := 1) hx hb dL_refusesAny_427 (by decide) ?_
    refine lv_goto (tgt := 432) hx hb dL_refusesAny_428 (by decide) ?_
    exact W.zret (v := 1) hx hb hret lt_z1 (fun t ht hW => ⟨⟨_, u, rfl, rfl, by rw [ht]; exact hP, hD⟩, hS.F ht⟩) hS.2.2 dL_refusesAny_432
  refine lv_if_eq (tgt := 359) hx hb dL_refusesAny_336 (by decide) (fun _ => kk _ _ _ hP hD hS) (fun q => ?_)
  have ph0 : X5_has (σ.2.2.2.1.1 2) (σ.2.2.2.1.2 3) (σ.2.2.2.1.2 4) (σ.2.2.2.1.2 5) (σ.2.2.2.1.2 6) 0 = 1 := ra_ph3 (by decide) (by rw [eZ]; rcases Nat.eq_zero_or_pos Z with e | e; exact absurd (by rw [e]; rfl) q; exact nI_ge (a := 0) (by omega) (by omega))
  refine lv_aload_n hx hb dL_refusesAny_339 rfl (lv_at hl 3 rfl) ?_
  refine lv_iconst (v := 0) hx hb dL_refusesAny_340 (by decide) ?_
  refine lv_iload_n hx hb dL_refusesAny_341 rfl (lv_at hl 4 rfl) ?_
  refine lv_if_ne (tgt := 349) hx hb dL_refusesAny_342 (by decide) (fun _ => ?_) (fun q => absurd q (by decide))
  refine lv_bipush (v := 7) hx hb dL_refusesAny_349 (by decide) ?_
  refine lo_call (As := [.int 0, .int 7]) (v := (-2)) hB (lo_c_picture l D yI yC yO h Ad σ u 0 7 _) (kw_refusesAny_picture hts) rfl hl.1 rfl (Nat.le_of_ble_eq_true rfl) dL_refusesAny_351 (Nat.zero_le _) (Nat.zero_le _) (ra_pic2 σ ph0 (by decide) (by decide) (by decide) (by decide) (by decide) (by decide) (by decide)) rfl hP hD hS (fun u H locs hP hD hS => ?_)
  refine lv_bipush (v := (-2)) hx hb dL_refusesAny_354 (by decide) ?_
  refine lv_icmp_ne (tgt := 431) hx hb dL_refusesAny_356 (by decide) (fun q => absurd rfl q) (fun _ => ?_)
  exact kk _ _ _ hP hD hS

abbrev lo_rm_refused : Room := { frames := 8, cells := 0, slots := 0, locals := 240 }
theorem kw_refused_seen {args : Array Value} {s : State} (hts : ∀ w ∈ wsL_refused, w.before args s = true) : CallB lo_rm_refused s args RL 62 yL_seen cL_seen 4 (some .long) wsL_seen lo_rm_seen 0 0 1 ∧ (Cond.static yL_seen).before args s = true := cwS 1 hts gL_refused_L_seen rfl rfl rfl (by decide +kernel) ⟨Nat.le_of_ble_eq_true rfl, Nat.le_of_ble_eq_true rfl⟩
theorem kw_refused_count {args : Array Value} {s : State} (hts : ∀ w ∈ wsL_refused, w.before args s = true) : CallW lo_rm_refused s args RL RX7 13 yX7_count cX7_count 2 (some .int) wsX7_count ({ frames := 6, cells := 0, slots := 0, locals := 180 }) 0 0 1 := cwV 1 hts gL_refused_X7_count rfl rfl rfl (by decide +kernel) ⟨Nat.le_of_ble_eq_true rfl, Nat.le_of_ble_eq_true rfl⟩
theorem kw_refused_refusesAny {args : Array Value} {s : State} (hts : ∀ w ∈ wsL_refused, w.before args s = true) : CallB lo_rm_refused s args RL 66 yL_refusesAny cL_refusesAny 5 (some .boolean) wsL_refusesAny lo_rm_refusesAny 0 0 2 ∧ (Cond.static yL_refusesAny).before args s = true := cwS 2 hts gL_refused_L_refusesAny rfl rfl rfl (by decide +kernel) ⟨Nat.le_of_ble_eq_true rfl, Nat.le_of_ble_eq_true rfl⟩
theorem lo_cmp0 (x : Int64) : lg_cmp x x = 0 := by
  unfold lg_cmp
  rw [if_neg (show ¬ x > x from Int64.lt_irrefl), if_pos rfl]
section LOF
variable {p : Program} {l : Launch} {e : Env} {R : Room} {s : State} {m : MethodId} {args : Array Value} {below : List Frame} {meth : Method} {c : Code} {H : Heap} {locs : List Loc} {cells slots : Nat} {Q : State → Prop}
variable {pc : Nat} {ls : Array Slot} {rest st0 : List Value} {a : Array Value} {A : Nat → Prop} {mc ms : Nat} {D : va_G} {yI yC yO : ClassId} {cc : ByteArray} {nL : Nat} {Ts : List Cond}
/-- seen, called -/
theorem lo_seens {wr : va_W} {σ : lo_T} {u : lo_U} {h : Nat} {Ad : Nat → Nat → Nat} {index : Nat} (hB : lo_B p s m args c cc nL Ts D yI yC yO A) (hG : lo_G σ)
    (cw : CallB R s args RL index yL_seen cL_seen 4 (some .long) wsL_seen lo_rm_seen 0 0 1 ∧ (Cond.static yL_seen).before args s = true)
    (hsize : ls.size = nL) (hW : (rest.map fun v => v.category).sum ≤ 8) (hdg : decode cc pc = .ok (.invokestatic index, 3)) (hc : cells ≤ R.cells) (hs : slots ≤ R.slots)
    (hP : va_P D vwCl (wr ++ lo_O yI yC yO h Ad σ u) H) (hD : va_D A (wr ++ lo_O yI yC yO h Ad σ u)) (hS : va_S A s.heap H locs)
    (kk : ∀ (u : lo_U) (H1 : Heap) (locs1 : List Loc), va_P D vwCl (wr ++ lo_O yI yC yO h Ad σ u) H1 → va_D A (wr ++ lo_O yI yC yO h Ad σ u) → va_S A s.heap H1 locs1 → W p l e R s m args below meth c H1 locs1 cells slots Q (F0 m (pc + 3) ls (.long (lo_seen σ) :: rest))) : W p l e R s m args below meth c H locs cells slots Q (F0 m pc ls (.ref h :: rest)) :=
  lo_callSl (As := [.ref h]) (mc := 0) (ms := 0) hB (lo_c_seen l D yI yC yO h Ad σ u H.size hG) cw rfl hsize rfl hW hdg hc hs hP hD hS kk
end LOF
set_option maxHeartbeats 4000000 in
set_option maxRecDepth 100000 in
theorem lo_c_refused (l : Launch) (D : va_G) (yI yC yO : ClassId) (h : Nat) (Ad : Nat → Nat → Nat) (σ : lo_T) (u : lo_U) (sz : Nat) (hG : lo_G σ) (hz : lt_hz σ.2.1) : Met l yL_refused wsL_refused lo_rm_refused (va_Pc [.ref h] (lo_M D yI yC yO (lo_O yI yC yO h Ad σ u) sz)) (lo_Q D ((1, σ) : Int32 × lo_T).1 (lo_O yI yC yO h Ad ((1, σ) : Int32 × lo_T).2) (va_A (lo_O yI yC yO h Ad σ u) sz)) 0 0 (va_A (lo_O yI yC yO h Ad σ u) sz) := by
  refine Met.ofW (cc := cL_refused) (maxL := 4) (ret := (some .boolean)) (by decide) rfl ?_
  intro p e s m args below meth c s₁ B0 hml hv
  obtain ⟨rfl, hM⟩ := hv
  have hB : lo_B p s m _ c cL_refused 4 wsL_refused D yI yC yO (va_A (lo_O yI yC yO h Ad σ u) sz) := lo_B.of B0.exec B0.bytes hml (findClass_of_methodNamed B0.named) (atoms_spec (ws := wsL_refused) B0.pre) hM
  obtain ⟨hP, hD, hS⟩ := hM.S
  have hx := hB.1.1
  have hb := hB.1.2.1
  have hown := hB.1.2.2.2.1
  have hts := hB.1.2.2.2.2
  have hret := B0.returns
  have hlocks := B0.notSynchronized
  have hl := lv_entry ([.ref h]) (n := 4) (Nat.le_of_ble_eq_true rfl)
  rw [lg_entry_eq]
  generalize (lg_sl ([.ref h]) ++ List.replicate (4 - (lg_sl ([.ref h])).length) Slot.unset).toArray = ls at hl ⊢
  have hl : lv_has ls 4 [(0, .ref h)] := hl
  generalize hAe : va_A (lo_O yI yC yO h Ad σ u) sz = A at hB hD hS ⊢
  refine lv_aload_n hx hb dL_refused_0 rfl (lv_at hl 0 rfl) ?_
  refine lo_seens (wr := []) (rest := []) hB hG (kw_refused_seen hts) hl.1 (Nat.le_of_ble_eq_true rfl) dL_refused_1 (Nat.zero_le _) (Nat.zero_le _) hP hD hS (fun u H locs hP hD hS => ?_)
  refine lv_lstore_n (lv' := [(1, .long (lo_seen σ)), (0, .ref h)]) hx hb dL_refused_4 rfl hl (by decide) rfl (fun ls hl => ?_)
  refine lv_aload_n hx hb dL_refused_5 rfl (lv_at hl 1 rfl) ?_
  refine lv_bipush (v := 15) hx hb dL_refused_6 (by decide) ?_
  refine lo_call (As := [.int 15]) hB (lo_c_count l D yI yC yO h Ad σ u 15 _) (kw_refused_count hts) rfl hl.1 rfl (Nat.le_of_ble_eq_true rfl) dL_refused_8 (Nat.zero_le _) (Nat.zero_le _) rfl rfl hP hD hS (fun u H locs hP hD hS => ?_)
  refine lv_istore_n (lv' := [(3, .int (lo_count σ 15).1), (1, .long (lo_seen σ)), (0, .ref h)]) hx hb dL_refused_11 rfl hl (by decide) rfl (fun ls hl => ?_)
  refine lv_aload_n hx hb dL_refused_12 rfl (lv_at hl 2 rfl) ?_
  refine lv_iconst (v := 0) hx hb dL_refused_13 (by decide) ?_
  refine lo_callS (mc := 0) (ms := 0) (wr := []) (As := [.ref h, .int 0]) (rest := []) hB (lo_c_refusesAny0 l D yI yC yO h Ad σ u _ hG hz) (kw_refused_refusesAny hts) rfl hl.1 rfl (Nat.le_of_ble_eq_true rfl) dL_refused_14 (Nat.zero_le _) (Nat.zero_le _) hP hD hS (fun u H locs hP hD hS => ?_)
  refine lv_if_eq (tgt := 51) hx hb dL_refused_17 (by decide) (fun q => absurd q (by decide)) (fun _ => ?_)
  refine lv_aload_n hx hb dL_refused_20 rfl (lv_at hl 2 rfl) ?_
  refine lv_iconst (v := 1) hx hb dL_refused_21 (by decide) ?_
  refine lo_callS (mc := 0) (ms := 0) (wr := []) (As := [.ref h, .int 1]) (rest := []) hB (lo_c_refusesAny1 l D yI yC yO h Ad σ u _ hG hz) (kw_refused_refusesAny hts) rfl hl.1 rfl (Nat.le_of_ble_eq_true rfl) dL_refused_22 (Nat.zero_le _) (Nat.zero_le _) hP hD hS (fun u H locs hP hD hS => ?_)
  refine lv_if_eq (tgt := 51) hx hb dL_refused_25 (by decide) (fun q => absurd q (by decide)) (fun _ => ?_)
  refine lv_aload_n hx hb dL_refused_28 rfl (lv_at hl 2 rfl) ?_
  refine lo_seens (wr := []) (rest := []) hB hG (kw_refused_seen hts) hl.1 (Nat.le_of_ble_eq_true rfl) dL_refused_29 (Nat.zero_le _) (Nat.zero_le _) hP hD hS (fun u H locs hP hD hS => ?_)
  refine lv_lload_n hx hb dL_refused_32 rfl (lv_at hl 1 rfl) ?_
  refine W.lcmp hx hb dL_refused_33 ?_
  refine lt_top (y := 0) (lo_cmp0 _) ?_
  refine lv_if_ne (tgt := 51) hx hb dL_refused_34 (by decide) (fun q => absurd rfl q) (fun _ => ?_)
  refine lv_aload_n hx hb dL_refused_37 rfl (lv_at hl 2 rfl) ?_
  refine lv_bipush (v := 15) hx hb dL_refused_38 (by decide) ?_
  refine lo_call (As := [.int 15]) hB (lo_c_count l D yI yC yO h Ad σ u 15 _) (kw_refused_count hts) rfl hl.1 rfl (Nat.le_of_ble_eq_true rfl) dL_refused_40 (Nat.zero_le _) (Nat.zero_le _) rfl rfl hP hD hS (fun u H locs hP hD hS => ?_)
  refine lv_iload_n hx hb dL_refused_43 rfl (lv_at hl 0 rfl) ?_
  refine lv_icmp_ne (tgt := 51) hx hb dL_refused_44 (by decide) (fun q => absurd rfl q) (fun _ => ?_)
  refine lv_iconst (v := 1) hx hb dL_refused_47 (by decide) ?_
  refine lv_goto (tgt := 52) hx hb dL_refused_48 (by decide) ?_
  exact W.zret (v := 1) hx hb hret lt_z1 (fun t ht hW => ⟨⟨_, u, rfl, rfl, by rw [ht]; exact hP, hD⟩, hS.F ht⟩) hS.2.2 dL_refused_52
