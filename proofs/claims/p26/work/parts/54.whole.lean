/-! ===== the law from its entry to its end ===== -/
theorem lo_lay0 {m : Nat} (hm : m ≤ 9999) : (∃ S : Nat, 6 ≤ S ∧ S ≤ 30 ∧ (lo_layBook lo_t0 6 (nI m)).1 = nI S) ∧ (lo_layBook lo_t0 6 (nI m)).2.1 = 0 ∧ (lo_layBook lo_t0 6 (nI m)).2.2.1 = nI 1 ∧ lo_W (lo_layBook lo_t0 6 (nI m)).2.2.2.2.1.1 (lo_layBook lo_t0 6 (nI m)).2.2.2.2.1.2 ∧ (lo_layBook lo_t0 6 (nI m)).2.2.2.2.1.1 2 = 0 := by
  have hp : lo_pr (lt_sa0 2) := fun j hj => Or.inr (show (0 : Int32) ≤ 0 by decide)
  have hs : ∀ j : Nat, j < 3 → 0 ≤ lt_sa0 7 j := by decide +kernel
  obtain ⟨⟨S, s1, s2, s3⟩, l2, l3⟩ := lo_layL (L0 := X6_clearForBook lt_si0 lt_sa0 0) (w0 := lt_sa0 0) (st0 := lt_sa0 1) (q0 := lt_sa0 2) (p1 := nI m) (n := 6) (by omega) (((6 : Int32).toInt - (0 : Int32).toInt).toNat + 1) 0 0 m (lt_sa0 0) (lt_sa0 1) (lt_sa0 2) (Nat.zero_le _) (by decide) (Nat.le_refl _) (Nat.le_refl _) hm hp
  have eX : X0_layBySeed_L13 (X6_clearForBook lt_si0 lt_sa0 0) (lt_sa0 0) (lt_sa0 1) (lt_sa0 2) (nI 6) (nI m) (((6 : Int32).toInt - (0 : Int32).toInt).toNat + 1) (nI m) (nI 0) (nI 0) (nI 0) (lt_sa0 0) (lt_sa0 1) (lt_sa0 2) = X0_layBySeed (X6_clearForBook lt_si0 lt_sa0 0) (lt_sa0 0) (lt_sa0 1) (lt_sa0 2) 6 (nI m) := rfl
  rw [eX] at s3 l2 l3
  have e : X7_layBook lo_t0.1 lo_t0.2.1 lo_zB lo_t0.2.2.1 lo_t0.2.2.2.1.1 lo_t0.2.2.2.1.2 6 (nI m) = ((X0_layBySeed (X6_clearForBook lt_si0 lt_sa0 0) (lt_sa0 0) (lt_sa0 1) (lt_sa0 2) 6 (nI m)).1, (X2_recz 0, X2_recB 0 lo_zB, X2_recV 0 lo_t0.2.2.1 lt_si0 lt_sa0, upd (X6_clearForBook lt_si0 lt_sa0) 0 (X0_layBySeed (X6_clearForBook lt_si0 lt_sa0 0) (lt_sa0 0) (lt_sa0 1) (lt_sa0 2) 6 (nI m)).2.1, va_up (va_up (va_up lt_sa0 0 (X0_layBySeed (X6_clearForBook lt_si0 lt_sa0 0) (lt_sa0 0) (lt_sa0 1) (lt_sa0 2) 6 (nI m)).2.2.1) 1 (X0_layBySeed (X6_clearForBook lt_si0 lt_sa0 0) (lt_sa0 0) (lt_sa0 1) (lt_sa0 2) 6 (nI m)).2.2.2.1) 2 (X0_layBySeed (X6_clearForBook lt_si0 lt_sa0 0) (lt_sa0 0) (lt_sa0 1) (lt_sa0 2) 6 (nI m)).2.2.2.2)) :=
    (if_neg (by decide)).trans ((if_neg (by decide)).trans ((if_neg (nI_pos (by omega))).trans (if_pos (nI_le (b := 9999) hm (by decide)))))
  unfold lo_layBook
  dsimp only
  rw [e]
  refine ⟨⟨S, s1, by omega, s3⟩, rfl, by show X2_recz 0 = nI 1; decide, ?_, by simp [upd, X6_clearForBook]⟩
  exact ⟨6, 0, 0, 6, by omega, by omega, by omega, by omega, by omega, by omega, by simpa [upd] using l2, by simp [upd, X6_clearForBook]; rfl, by simp [upd, X6_clearForBook]; rfl, by simp [upd, X6_clearForBook, lt_si0]; rfl, by simpa [va_up] using l3, by simpa [va_up] using hs⟩
theorem lo_restS {σ : lo_T} (h : ¬ σ.1 = 0) : lo_restore σ = (σ.2.2.2.2.2.1.1 2, (σ.1, X2_recz σ.2.1, X2_recV σ.2.1 σ.2.2.1 σ.2.2.2.1.1 σ.2.2.2.1.2, σ.2.2.2.2.2.1, σ.2.2.2.2)) := by
  have e : X7_restore σ.1 σ.2.1 lo_zB σ.2.2.1 σ.2.2.2.1.1 σ.2.2.2.1.2 σ.2.2.2.2.2.1.1 σ.2.2.2.2.2.1.2 = ((σ.2.2.2.2.2.1.1 2), ((X2_recz σ.2.1), (X2_recB σ.2.1 lo_zB), (X2_recV σ.2.1 σ.2.2.1 σ.2.2.2.1.1 σ.2.2.2.1.2), σ.2.2.2.2.2.1.1, σ.2.2.2.2.2.1.2)) := if_neg h
  unfold lo_restore
  dsimp only
  rw [e]
set_option maxHeartbeats 4000000 in
set_option maxRecDepth 100000 in
theorem whole_start {p : Program} {e : Env} {s : State} {m : MethodId} {below : List Frame} {meth : Method} {c : Code} (l : Launch) (hflags : l.flags = flags0) {b L : Nat} {xs : Nat → Int32} (hL : L ≤ 260) (C0 : lw_At p s m meth c b L xs) : W p l e room_1 s m #[Value.ref b] below meth c s.heap [] 0 0 (lw_Z below #[Value.ref b] s) (entryFrame m ([Value.ref b] : List Value).toArray 12) := by
  obtain ⟨hx, hb, hr, hml, hown, hts0, hX, hbl, hlocks, hgv⟩ := id C0
  obtain ⟨D, yI, yC, yO, hK, hAO, hZf, hZt⟩ := lv_start C0
  have hB : lo_B p s m #[Value.ref b] c cL_law 12 wsL_law D yI yC yO (fun q : Nat => s.heap.size ≤ q) := ⟨⟨hx, hb, hml, hown, fun w h => hts0 w (wsL_law_in w h)⟩, hK, hAO, hZf, hZt, fun _ h => h⟩
  have hts := hB.1.2.2.2.2
  have hA : ∀ q : Nat, s.heap.size ≤ q → (fun q => s.heap.size ≤ q) q := fun _ h => h
  have hbA : ¬ (fun q : Nat => s.heap.size ≤ q) b := Nat.not_le.mpr hbl
  have hS : va_S (fun q : Nat => s.heap.size ≤ q) s.heap s.heap [] := va_S.rf
  have hP : va_P D vwCl ([] : va_W) s.heap := lo_P0
  have hD : va_D (fun q : Nat => s.heap.size ≤ q) ([] : va_W) := lo_D0
  have hl := lv_entry ([.ref b]) (n := 12) (Nat.le_of_ble_eq_true rfl)
  rw [lg_entry_eq]
  generalize (lg_sl ([.ref b]) ++ List.replicate (12 - (lg_sl ([.ref b])).length) Slot.unset).toArray = ls at hl ⊢
  have hl : lv_has ls 12 [(0, .ref b)] := hl
  refine lo_callS (mc := 143) (ms := 3511) (wr := []) (As := []) (rest := []) (r := 1) (Wo := fun (_ : Unit) => ([] : va_W)) hB (lo_c_four l D yI yC yO _) (kw_law_four hts) rfl hl.1 rfl (Nat.le_of_ble_eq_true rfl) dL_law_0 (Nat.le_of_ble_eq_true rfl) (Nat.le_of_ble_eq_true rfl) hP hD hS (fun _ H locs hP hD hS => ?_)
  refine lv_if_eq (tgt := 18) hx hb dL_law_3 (by decide) (fun q => absurd q (by decide)) (fun _ => ?_)
  refine lo_callS (mc := 429) (ms := 10533) (wr := []) (As := []) (rest := []) (r := 1) (Wo := fun (_ : Unit) => ([] : va_W)) hB (lo_c_scans l D yI yC yO _) (kw_law_scans hts) rfl hl.1 rfl (Nat.le_of_ble_eq_true rfl) dL_law_6 (Nat.le_of_ble_eq_true rfl) (Nat.le_of_ble_eq_true rfl) hP hD hS (fun _ H locs hP hD hS => ?_)
  refine lv_if_eq (tgt := 18) hx hb dL_law_9 (by decide) (fun q => absurd q (by decide)) (fun _ => ?_)
  refine lo_callS (mc := 2145) (ms := 52665) (wr := []) (As := []) (rest := []) (r := 1) (Wo := fun (_ : Unit) => ([] : va_W)) hB (lo_c_texts l D yI yC yO _) (kw_law_texts hts) rfl hl.1 rfl (Nat.le_of_ble_eq_true rfl) dL_law_12 (Nat.le_of_ble_eq_true rfl) (Nat.le_of_ble_eq_true rfl) hP hD hS (fun _ H locs hP hD hS => ?_)
  refine lv_if_ne (tgt := 20) hx hb dL_law_15 (by decide) (fun _ => ?_) (fun q => absurd q (by decide))
  refine lo_new (wr := []) (rest := []) hB inlX7 (by decide +kernel) (by decide +kernel) (by decide +kernel) (by decide +kernel) (by decide +kernel) gL_law_X7_init ⟨Nat.le_of_ble_eq_true rfl, Nat.le_of_ble_eq_true rfl⟩ hl.1 (Nat.le_of_ble_eq_true rfl) dL_law_20 dL_law_23 dL_law_24 (Nat.le_of_ble_eq_true rfl) (Nat.le_of_ble_eq_true rfl) hP hD hS (fun h Ad u H locs hP hD hS => ?_)
  have hP : va_P D vwCl (lo_O yI yC yO h Ad lo_t0 u) H := hP
  have hD : va_D (fun q : Nat => s.heap.size ≤ q) (lo_O yI yC yO h Ad lo_t0 u) := hD
  refine lv_astore_n (lv' := [(1, .ref h), (0, .ref b)]) hx hb dL_law_27 rfl hl (by decide) rfl (fun ls hl => ?_)
  refine lv_bipush (v := 64) hx hb dL_law_28 (by decide) ?_
  refine va_newa (atype := .long) (ty := .long) (N' := 64) (a0 := (64, .inr (.inl (fun _ => 0)))) hx hb (hts (.arrayClass .long) (by decide +kernel)) rfl hK.1 hP hD hS hA (fun _ => rfl) (by decide) (by decide) (by decide) (Nat.le_of_ble_eq_true rfl) (Nat.le_of_ble_eq_true rfl) dL_law_30 (fun w yL H hKL hP hD hS => ?_)
  have hP : va_P D vwCl (lo_V yL w (fun _ => 0) ++ lo_O yI yC yO h Ad lo_t0 u) H := lo_Pc hP
  have hD : va_D (fun q : Nat => s.heap.size ≤ q) (lo_V yL w (fun _ => 0) ++ lo_O yI yC yO h Ad lo_t0 u) := lo_Dc hD
  refine lv_astore_n (lv' := [(2, .ref w), (1, .ref h), (0, .ref b)]) hx hb dL_law_32 rfl hl (by decide) rfl (fun ls hl => ?_)
  refine lv_iconst (v := 0) hx hb dL_law_33 (by decide) ?_
  refine lv_istore_n (lv' := [(3, .int 0), (2, .ref w), (1, .ref h), (0, .ref b)]) hx hb dL_law_34 rfl hl (by decide) rfl (fun ls hl => ?_)
  refine lv_aload_n hx hb dL_law_35 rfl (lv_at hl 2 rfl) ?_
  refine lv_bipush (v := 6) hx hb dL_law_36 (by decide) ?_
  refine lv_aload_n hx hb dL_law_38 rfl (lv_at hl 3 rfl) ?_
  refine lv_bipush (v := 90) hx hb dL_law_39 (by decide) ?_
  refine lo_drawns (k := 90) hB (by omega) (by decide) hX hbl hbA (kw_law_drawn hts) hl.1 (Nat.le_of_ble_eq_true rfl) dL_law_41 (Nat.le_of_ble_eq_true rfl) (Nat.le_of_ble_eq_true rfl) hP hD hS (fun H locs hP hD hS => ?_)
  generalize lo_drawn L xs (nI 90) = x9
  refine lv_sipush (v := 10000) hx hb dL_law_44 (by decide) ?_
  refine lo_parts (v := x9) (n := 10000) hB (by decide) (kw_law_part hts) hl.1 (Nat.le_of_ble_eq_true rfl) dL_law_47 (Nat.le_of_ble_eq_true rfl) (Nat.le_of_ble_eq_true rfl) hP hD hS (fun H locs hP hD hS => ?_)
  obtain ⟨mm, m1, m2⟩ := lo_partR x9 (n := 10000) (N := 10000) rfl (by decide) (by decide)
  refine lt_top (y := nI mm) m2 ?_
  obtain ⟨⟨S, s1, s2, s3⟩, g1, g2, g3, g4⟩ := lo_lay0 (m := mm) (by omega)
  refine lo_callr (wr := lo_V yL w (fun _ => 0)) (As := [.int 6, .int (nI mm)]) (X := lo_layBook lo_t0 6 (nI mm)) (v := nI S) (σ' := (lo_layBook lo_t0 6 (nI mm)).2) hB (lo_c_layBook l D yI yC yO h Ad lo_t0 u 6 (nI mm) _ (Or.inl rfl)) (kw_law_layBook hts) rfl hl.1 rfl (Nat.le_of_ble_eq_true rfl) dL_law_50 (Nat.le_of_ble_eq_true rfl) (Nat.le_of_ble_eq_true rfl) s3 rfl hP hD hS (fun u H locs hP hD hS => ?_)
  generalize (lo_layBook lo_t0 6 (nI mm)).2 = σ at hP hD g1 g2 g3 g4
  refine lv_bipush (v := 6) hx hb dL_law_53 (by decide) ?_
  refine lv_icmp_lt (tgt := 65) hx hb dL_law_55 (by decide) (fun q => absurd q (nI_nlt (a := S) (b := 6) s1 (by omega))) (fun _ => ?_)
  refine lv_aload_n hx hb dL_law_58 rfl (lv_at hl 2 rfl) ?_
  refine lo_callr (wr := lo_V yL w (fun _ => 0)) (As := []) (X := lo_keep σ) (v := 0) (σ' := (1, σ.2.1, σ.2.2.1, σ.2.2.2.1, σ.2.2.2.2.1, σ.2.2.2.1, σ.2.2.2.2.2.2)) hB (lo_c_keep l D yI yC yO h Ad σ u _) (kw_law_keep hts) rfl hl.1 rfl (Nat.le_of_ble_eq_true rfl) dL_law_59 (Nat.le_of_ble_eq_true rfl) (Nat.le_of_ble_eq_true rfl) g4 rfl hP hD hS (fun u H locs hP hD hS => ?_)
  have hinv : lo_inv σ.2.2.2.1 0 (1, σ.2.1, σ.2.2.1, σ.2.2.2.1, σ.2.2.2.2.1, σ.2.2.2.1, σ.2.2.2.2.2.2) (fun _ => 0) := ⟨rfl, rfl, g3, 1, g2, by omega, by omega, Or.inr rfl, by omega, fun m h1 h2 => absurd h2 (by omega)⟩
  have hn4 : σ.2.2.2.1.1 2 = 0 := g4
  have hn0 : lo_W σ.2.2.2.1.1 σ.2.2.2.1.2 := g3
  have eN : ((1, σ.2.1, σ.2.2.1, σ.2.2.2.1, σ.2.2.2.2.1, σ.2.2.2.1, σ.2.2.2.2.2.2) : lo_T).2.2.2.1 = σ.2.2.2.1 := rfl
  generalize ((1, σ.2.1, σ.2.2.1, σ.2.2.2.1, σ.2.2.2.2.1, σ.2.2.2.1, σ.2.2.2.2.2.2) : lo_T) = τ at hP hD hinv eN
  generalize σ.2.2.2.1 = n0 at hinv hn4 hn0 eN
  refine lv_if_eq (tgt := 67) hx hb dL_law_62 (by decide) (fun _ => ?_) (fun q => absurd rfl q)
  refine lv_aload_n hx hb dL_law_67 rfl (lv_at hl 2 rfl) ?_
  refine lo_seens (wr := lo_V yL w (fun _ => 0)) (σ := τ) hB hinv.2.2.1.G (kw_law_seen hts) hl.1 (Nat.le_of_ble_eq_true rfl) dL_law_68 (Nat.le_of_ble_eq_true rfl) (Nat.le_of_ble_eq_true rfl) hP hD hS (fun u H locs hP hD hS => ?_)
  refine lv_lstore (lv' := [(4, .long (lo_seen τ)), (3, .int 0), (2, .ref w), (1, .ref h), (0, .ref b)]) hx hb dL_law_71 hl (by decide) rfl (fun ls hl => ?_)
  have eK : lo_seen τ = lo_S n0 := by rw [lo_seenS, eN]
  generalize lo_seen τ = kept at hl eK
  refine lv_iconst (v := 0) hx hb dL_law_73 (by decide) ?_
  refine lv_istore (lv' := [(6, .int 0), (4, .long kept), (3, .int 0), (2, .ref w), (1, .ref h), (0, .ref b)]) hx hb dL_law_74 hl (by decide) rfl (fun ls hl => ?_)
  refine law_l1 hB (Nat.le_of_ble_eq_true rfl) (Nat.le_of_ble_eq_true rfl) hKL (xs := xs) (Ls := L) (by omega) hX hbl hbA hn0 (fun acts σ f H locs ls ha hinv hJ hl => ?_) 28 0 0 τ (fun _ => 0) (by decide) (Nat.le_refl _) hinv H locs ls ⟨u, hP, hD, hS⟩ hl
  obtain ⟨u, hP, hD, hS⟩ := hJ
  refine lv_aload_n hx hb dL_law_377 rfl (lv_at hl 3 rfl) ?_
  refine lv_iload_n hx hb dL_law_378 rfl (lv_at hl 2 rfl) ?_
  refine lv_aload_n hx hb dL_law_379 rfl (lv_at hl 4 rfl) ?_
  refine lo_seens (wr := lo_V yL w f) (σ := σ) hB hinv.2.2.1.G (kw_law_seen hts) hl.1 (Nat.le_of_ble_eq_true rfl) dL_law_380 (Nat.le_of_ble_eq_true rfl) (Nat.le_of_ble_eq_true rfl) hP hD hS (fun u H locs hP hD hS => ?_)
  refine va_last hx hb hKL hP hD hS 0 3 rfl rfl (vp_in_nI (by omega) (by omega)) dL_law_383 (fun H locs hP hD hS => ?_)
  have hP : va_P D vwCl (lo_V yL w (vp_updL f (nI acts).toNatClampNeg (lo_seen σ)) ++ lo_O yI yC yO h Ad σ u) H := hP
  have hD : va_D (fun q : Nat => s.heap.size ≤ q) (lo_V yL w (vp_updL f (nI acts).toNatClampNeg (lo_seen σ)) ++ lo_O yI yC yO h Ad σ u) := hD
  rw [nI_clamp (by omega)] at hP hD
  have hinv2 := hinv.f (lo_seen σ)
  refine lv_aload_n hx hb dL_law_384 rfl (lv_at hl 4 rfl) ?_
  refine lo_callsr (wr := lo_V yL w (vp_updL f acts (lo_seen σ))) (X := (1, σ)) (v := 1) (As := [.ref h]) (σ' := σ) hB (lo_c_refused l D yI yC yO h Ad σ u _ hinv.2.2.1.G hinv.z) (kw_law_refused hts) rfl hl.1 rfl (Nat.le_of_ble_eq_true rfl) dL_law_385 (Nat.le_of_ble_eq_true rfl) (Nat.le_of_ble_eq_true rfl) rfl rfl hP hD hS (fun u H locs hP hD hS => ?_)
  refine lv_if_ne (tgt := 393) hx hb dL_law_388 (by decide) (fun _ => ?_) (fun q => absurd q (by decide))
  refine lv_iconst (v := 0) hx hb dL_law_393 (by decide) ?_
  refine lv_istore (lv' := [(6, .int 0), (4, .long kept), (3, .int (nI acts)), (2, .ref w), (1, .ref h), (0, .ref b)]) hx hb dL_law_394 hl (by decide) rfl (fun ls hl => ?_)
  obtain ⟨i1, i2, i3, zn, ez, z1, z4, zc, zd, hm⟩ := hinv2
  refine law_l2 hB (Nat.le_of_ble_eq_true rfl) (Nat.le_of_ble_eq_true rfl) hKL (f := vp_updL f acts (lo_seen σ)) (acts := acts) (zn := zn) (V := σ.2.2.1) ha z4 hm (fun z σ' H locs ls h1 h2 hz4 hez hJ hl => ?_) zn 0 σ H locs ls i1 i2 (by omega) (Nat.zero_le _) ez rfl i3 (by rw [Nat.sub_zero, pk_uLs, lo_seenS]) ⟨u, hP, hD, hS⟩ hl
  refine law_l3 hB (Nat.le_of_ble_eq_true rfl) (Nat.le_of_ble_eq_true rfl) (f := vp_updL f acts (lo_seen σ)) (fun σ' H locs ls h1 h2 h0 hJ hl => ?_) z σ' H locs ls h1 h2 hz4 hez hJ hl
  obtain ⟨u, hP, hD, hS⟩ := hJ
  have hs1 : ¬ σ'.1 = 0 := by rw [h1]; decide
  have eR := lo_restS hs1
  refine lv_aload_n hx hb dL_law_476 rfl (lv_at hl 2 rfl) ?_
  refine lo_callr (wr := lo_V yL w (vp_updL f acts (lo_seen σ))) (As := []) (X := lo_undo σ') (v := (-5)) (σ' := σ') hB (lo_c_undo l D yI yC yO h Ad σ' u _ (Or.inl h0)) (kw_law_undo hts) rfl hl.1 rfl (Nat.le_of_ble_eq_true rfl) dL_law_477 (Nat.le_of_ble_eq_true rfl) (Nat.le_of_ble_eq_true rfl) (lo_p2 (lo_undo0 h0)).1 (lo_p2 (lo_undo0 h0)).2 hP hD hS (fun u H locs hP hD hS => ?_)
  refine lv_bipush (v := (-5)) hx hb dL_law_480 (by decide) ?_
  refine lv_icmp_ne (tgt := 516) hx hb dL_law_482 (by decide) (fun q => absurd rfl q) (fun _ => ?_)
  refine lv_aload_n hx hb dL_law_485 rfl (lv_at hl 2 rfl) ?_
  refine lo_callr (wr := lo_V yL w (vp_updL f acts (lo_seen σ))) (As := []) (X := lo_restore σ') (v := 0) (σ' := (lo_restore σ').2) hB (lo_c_restore l D yI yC yO h Ad σ' u _ (Or.inl h0)) (kw_law_restore hts) rfl hl.1 rfl (Nat.le_of_ble_eq_true rfl) dL_law_486 (Nat.le_of_ble_eq_true rfl) (Nat.le_of_ble_eq_true rfl) (by rw [eR]; show σ'.2.2.2.2.2.1.1 2 = 0; rw [h2]; exact hn4) rfl hP hD hS (fun u H locs hP hD hS => ?_)
  have q1 : (lo_restore σ').2.2.1 = 1 := by rw [eR]; show X2_recz σ'.2.1 = 1; rw [h0]; decide
  have q2 : (lo_restore σ').2.2.2.2.1 = n0 := by rw [eR]; exact h2
  generalize (lo_restore σ').2 = σ2 at hP hD q1 q2
  refine lv_if_ne (tgt := 516) hx hb dL_law_489 (by decide) (fun q => absurd rfl q) (fun _ => ?_)
  refine lv_aload_n hx hb dL_law_492 rfl (lv_at hl 2 rfl) ?_
  refine lo_seens (wr := lo_V yL w (vp_updL f acts (lo_seen σ))) (σ := σ2) hB (lo_W.G (by rw [q2]; exact hn0)) (kw_law_seen hts) hl.1 (Nat.le_of_ble_eq_true rfl) dL_law_493 (Nat.le_of_ble_eq_true rfl) (Nat.le_of_ble_eq_true rfl) hP hD hS (fun u H locs hP hD hS => ?_)
  refine lv_lload hx hb dL_law_496 (lv_at hl 0 rfl) ?_
  refine W.lcmp hx hb dL_law_498 ?_
  refine lt_top (y := 0) (by rw [lo_seenS, q2, eK]; exact lo_cmp0 _) ?_
  refine lv_if_ne (tgt := 516) hx hb dL_law_499 (by decide) (fun q => absurd rfl q) (fun _ => ?_)
  refine lv_aload_n hx hb dL_law_502 rfl (lv_at hl 2 rfl) ?_
  refine lv_bipush (v := 15) hx hb dL_law_503 (by decide) ?_
  refine lo_callr (wr := lo_V yL w (vp_updL f acts (lo_seen σ))) (As := [.int 15]) (X := lo_count σ2 15) (v := 1) (σ' := σ2) hB (lo_c_count l D yI yC yO h Ad σ2 u 15 _) (kw_law_count hts) rfl hl.1 rfl (Nat.le_of_ble_eq_true rfl) dL_law_505 (Nat.le_of_ble_eq_true rfl) (Nat.le_of_ble_eq_true rfl) ((lo_n15 σ2).trans q1) rfl hP hD hS (fun u H locs hP hD hS => ?_)
  refine lv_iconst (v := 1) hx hb dL_law_508 (by decide) ?_
  refine lv_icmp_ne (tgt := 516) hx hb dL_law_509 (by decide) (fun q => absurd rfl q) (fun _ => ?_)
  refine lv_iconst (v := 1) hx hb dL_law_512 (by decide) ?_
  refine lv_goto (tgt := 517) hx hb dL_law_513 (by decide) ?_
  refine va_forget (fun q hq => hS.2.2 q hq) ?_
  refine W.widen (k := 600000) (n := 7302250) (Nat.le_of_ble_eq_true rfl) (Nat.le_of_ble_eq_true rfl) ?_
  exact lw_ret hx hb hr hlocks dL_law_517
