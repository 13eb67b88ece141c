set_option maxHeartbeats 4000000 in
set_option maxRecDepth 100000 in
/-- THE LAW'S LOOP: at its head, with k ints read, the class and the reference stand in the same state -/
theorem law_loop {p : Program} {l : Launch} {e : Env} {s : State} {m : MethodId} {below : List Frame} {meth : Method} {c : Code} {D : va_G} {yI yC yO : ClassId} {b L : Nat} {xs : Nat → Int32} (hL : L ≤ 1536) (C0 : lw_At p s m meth c b L xs) (hK0 : lt_K D yI yC yO s) (hZt : lt_Zt (fun q => s.heap.size ≤ q) s) :
    ∀ (n k : Nat) (x3 : Int32), k ≤ L → L + 1 ≤ k + n → x3 = nI k → ∀ (H : Heap) (locs : List Loc) (ls : Array Slot), law_I D yI yC yO (fun q => s.heap.size ≤ q) s.heap b x3 H locs ls → W p l e room_1 s m #[Value.ref b] below meth c H locs 152 7541 (lw_Z below #[Value.ref b] s) (F0 m 18 ls []) := by
  obtain ⟨hx, hb, hr, hml, hown, hts, hX, hbl, hlocks, hgv⟩ := id C0
  have hA : ∀ q : Nat, s.heap.size ≤ q → (fun q => s.heap.size ≤ q) q := fun _ h => h
  have hbA : ¬ (fun q => s.heap.size ≤ q) b := Nat.not_le.mpr hbl
  intro n
  induction n with
  | zero =>
    intro k x3 h1 h2
    exact absurd h2 (by omega)
  | succ n ih =>
    intro k x3 hk hn ex3 H locs ls hI
    obtain ⟨h, B0_, B1_, B2_, G, Tx, Pg, M, hs_, z, Bh, Vh, i0, a0, i1, a1, i2, a2, len, sg, pi, pa, gs, ch, i, a, hRW, hP, hD, hS, hl⟩ := id hI
    refine lv_iload_n hx hb dL_law_18 rfl (lv_at hl 0 rfl) ?_
    refine lv_aload_n hx hb dL_law_19 rfl (lv_at hl 3 rfl) ?_
    refine va_slen hx hb hX hbl hbA hS dL_law_20 ?_
    refine lv_iconst (v := 3) hx hb dL_law_21 (by decide) ?_
    refine lv_isub hx hb dL_law_22 ?_
    refine lv_icmp_gt (tgt := 647) hx hb dL_law_23 (by decide) (fun c_23 => ?_) (fun c_23 => ?_)
    · refine lv_iconst (v := 1) hx hb dL_law_647 (by decide) ?_
      refine va_forget (fun q hq => hS.2.2 q hq) ?_
      refine W.widen (k := 600000) (n := 7302250) (by decide) (by decide) ?_
      exact lw_ret hx hb hr hlocks dL_law_648
    · have hk3 : k + 3 ≤ L := by
        have h1 := Int32.le_iff_toInt_le.mp (lt_nlt c_23)
        rw [ex3, nI_toInt (by omega)] at h1
        have h2 : (Int32.ofNat L - 3).toInt = (L : Int) - 3 := pk_sub_toInt (a := L) (b := 3) (by omega) (by decide)
        rw [h2] at h1
        omega
      have h_0 : vp_in x3 L := by rw [ex3]; exact vp_in_nI (by omega) (by omega)
      have h_1 : vp_in (x3 + 1) L := by rw [ex3, nI_1]; exact vp_in_nI (by omega) (by omega)
      have h_2 : vp_in (x3 + 2) L := by rw [ex3, show nI k + 2 = nI (k + 2) from nI_add k 2]; exact vp_in_nI (by omega) (by omega)
      have kk : ∀ (H : Heap) (locs : List Loc) (ls : Array Slot), law_I D yI yC yO (fun q => s.heap.size ≤ q) s.heap b x3 H locs ls → W p l e room_1 s m #[Value.ref b] below meth c H locs 152 7541 (lw_Z below #[Value.ref b] s) (F0 m 641 ls []) := by
        intro H locs ls hI
        obtain ⟨h, B0_, B1_, B2_, G, Tx, Pg, M, hs_, z, Bh, Vh, i0, a0, i1, a1, i2, a2, len, sg, pi, pa, gs, ch, i, a, hRW, hP, hD, hS, hl⟩ := hI
        refine lv_iinc (v := x3 + 3) (lv' := [(3, .int (x3 + 3)), (2, .ref (M 0)), (1, .ref h), (0, .ref b)]) hx hb dL_law_641 hl (k := 0) rfl rfl (by decide) rfl (fun ls hl => ?_)
        refine lv_goto (tgt := 18) hx hb dL_law_644 (by decide) ?_
        exact ih (k + 3) (x3 + 3) (by omega) (by omega) (by rw [ex3]; exact nI_add k 3) _ _ _ ⟨h, B0_, B1_, B2_, G, Tx, Pg, M, hs_, z, Bh, Vh, i0, a0, i1, a1, i2, a2, len, sg, pi, pa, gs, ch, i, a, hRW, hP, hD, hS, hl⟩
      refine lv_aload_n hx hb dL_law_26 rfl (lv_at hl 3 rfl) ?_
      refine lv_iload_n hx hb dL_law_27 rfl (lv_at hl 0 rfl) ?_
      refine va_sld hx hb hX hbl hbA hS h_0 dL_law_28 ?_
      refine lv_bipush (v := 31) hx hb dL_law_29 (by decide) ?_
      refine lv_iand hx hb dL_law_31 ?_
      obtain ⟨j, hj, ej⟩ := pk_andE (xs x3.toNatClampNeg) (m := 31) 5 (by decide)
      refine lt_top (y := nI j) ej ?_
      rcases (show j = 0 ∨ j = 1 ∨ j = 2 ∨ j = 3 ∨ j = 4 ∨ j = 5 ∨ j = 6 ∨ j = 7 ∨ j = 8 ∨ j = 9 ∨ j = 10 ∨ j = 11 ∨ j = 12 ∨ j = 13 ∨ j = 14 ∨ j = 15 ∨ j = 16 ∨ j = 17 ∨ j = 18 ∨ j = 19 ∨ j = 20 ∨ j = 21 ∨ j = 22 ∨ 23 ≤ j by omega) with rfl | rfl | rfl | rfl | rfl | rfl | rfl | rfl | rfl | rfl | rfl | rfl | rfl | rfl | rfl | rfl | rfl | rfl | rfl | rfl | rfl | rfl | rfl | hj2
      · refine lv_tableIn (off := 108) (tgt := 140) hx hb dL_law_32 (by decide) (by decide) (by decide +kernel) (by decide) ?_
        exact law_case_0 hA hbA C0 hK0 hZt h_1 h_2 hI kk
      · refine lv_tableIn (off := 121) (tgt := 153) hx hb dL_law_32 (by decide) (by decide) (by decide +kernel) (by decide) ?_
        exact law_case_1 hA hbA C0 hK0 hZt h_1 h_2 hI kk
      · refine lv_tableIn (off := 154) (tgt := 186) hx hb dL_law_32 (by decide) (by decide) (by decide +kernel) (by decide) ?_
        exact law_case_2 hA hbA C0 hK0 hZt h_1 h_2 hI kk
      · refine lv_tableIn (off := 187) (tgt := 219) hx hb dL_law_32 (by decide) (by decide) (by decide +kernel) (by decide) ?_
        exact law_case_3 hA hbA C0 hK0 hZt h_1 h_2 hI kk
      · refine lv_tableIn (off := 200) (tgt := 232) hx hb dL_law_32 (by decide) (by decide) (by decide +kernel) (by decide) ?_
        exact law_case_4 hA hbA C0 hK0 hZt h_1 h_2 hI kk
      · refine lv_tableIn (off := 213) (tgt := 245) hx hb dL_law_32 (by decide) (by decide) (by decide +kernel) (by decide) ?_
        exact law_case_5 hA hbA C0 hK0 hZt h_1 h_2 hI kk
      · refine lv_tableIn (off := 226) (tgt := 258) hx hb dL_law_32 (by decide) (by decide) (by decide +kernel) (by decide) ?_
        exact law_case_6 hA hbA C0 hK0 hZt h_1 h_2 hI kk
      · refine lv_tableIn (off := 249) (tgt := 281) hx hb dL_law_32 (by decide) (by decide) (by decide +kernel) (by decide) ?_
        exact law_case_7 hA hbA C0 hK0 hZt h_1 h_2 hI kk
      · refine lv_tableIn (off := 272) (tgt := 304) hx hb dL_law_32 (by decide) (by decide) (by decide +kernel) (by decide) ?_
        exact law_case_8 hA hbA C0 hK0 hZt h_1 h_2 hI kk
      · refine lv_tableIn (off := 295) (tgt := 327) hx hb dL_law_32 (by decide) (by decide) (by decide +kernel) (by decide) ?_
        exact law_case_9 hA hbA C0 hK0 hZt h_1 h_2 hI kk
      · refine lv_tableIn (off := 328) (tgt := 360) hx hb dL_law_32 (by decide) (by decide) (by decide +kernel) (by decide) ?_
        exact law_case_10 hA hbA C0 hK0 hZt h_1 h_2 hI kk
      · refine lv_tableIn (off := 353) (tgt := 385) hx hb dL_law_32 (by decide) (by decide) (by decide +kernel) (by decide) ?_
        exact law_case_11 hA hbA C0 hK0 hZt h_1 h_2 hI kk
      · refine lv_tableIn (off := 366) (tgt := 398) hx hb dL_law_32 (by decide) (by decide) (by decide +kernel) (by decide) ?_
        exact law_case_12 hA hbA C0 hK0 hZt h_1 h_2 hI kk
      · refine lv_tableIn (off := 379) (tgt := 411) hx hb dL_law_32 (by decide) (by decide) (by decide +kernel) (by decide) ?_
        exact law_case_13 hA hbA C0 hK0 hZt h_1 h_2 hI kk
      · refine lv_tableIn (off := 392) (tgt := 424) hx hb dL_law_32 (by decide) (by decide) (by decide +kernel) (by decide) ?_
        exact law_case_14 hA hbA C0 hK0 hZt h_1 h_2 hI kk
      · refine lv_tableIn (off := 405) (tgt := 437) hx hb dL_law_32 (by decide) (by decide) (by decide +kernel) (by decide) ?_
        exact law_case_15 hA hbA C0 hK0 hZt h_1 h_2 hI kk
      · refine lv_tableIn (off := 438) (tgt := 470) hx hb dL_law_32 (by decide) (by decide) (by decide +kernel) (by decide) ?_
        exact law_case_16 hA hbA C0 hK0 hZt h_1 h_2 hI kk
      · refine lv_tableIn (off := 471) (tgt := 503) hx hb dL_law_32 (by decide) (by decide) (by decide +kernel) (by decide) ?_
        exact law_case_17 hA hbA C0 hK0 hZt h_1 h_2 hI kk
      · refine lv_tableIn (off := 504) (tgt := 536) hx hb dL_law_32 (by decide) (by decide) (by decide +kernel) (by decide) ?_
        exact law_case_18 hA hbA C0 hK0 hZt h_1 h_2 hI kk
      · refine lv_tableIn (off := 527) (tgt := 559) hx hb dL_law_32 (by decide) (by decide) (by decide +kernel) (by decide) ?_
        exact law_case_19 hA hbA C0 hK0 hZt h_1 h_2 hI kk
      · refine lv_tableIn (off := 550) (tgt := 582) hx hb dL_law_32 (by decide) (by decide) (by decide +kernel) (by decide) ?_
        exact law_case_20 hA hbA C0 hK0 hZt h_1 h_2 hI kk
      · refine lv_tableIn (off := 563) (tgt := 595) hx hb dL_law_32 (by decide) (by decide) (by decide +kernel) (by decide) ?_
        exact law_case_21 hA hbA C0 hK0 hZt h_1 h_2 hI kk
      · refine lv_tableIn (off := 586) (tgt := 618) hx hb dL_law_32 (by decide) (by decide) (by decide +kernel) (by decide) ?_
        exact law_case_22 hA hbA C0 hK0 hZt h_1 h_2 hI kk
      · refine lv_tableOut (tgt := 641) hx hb dL_law_32 (Or.inr (by rw [nI_toInt (by omega)]; omega)) (by decide) ?_
        exact kk _ _ _ hI
theorem law_RS0 : RS 0 0 0 lt_si0 lt_sa0 (lt_ma0 0) := by
  refine ⟨⟨by omega, by omega, by omega, rfl, rfl, rfl, ⟨0, 2, 6, 1, by omega, by omega, by omega, by omega, by omega, rfl, rfl, rfl, rfl, Or.inl rfl⟩, fun k hk => absurd hk (by omega)⟩, fun k hk => ?_, fun k hk => ?_, fun k hk => absurd hk (by omega), fun k hk => absurd hk (by omega), fun k hk => absurd hk (by omega)⟩
  · rcases (show k = 0 ∨ k = 1 ∨ k = 2 ∨ k = 3 ∨ k = 4 ∨ k = 5 ∨ k = 6 ∨ k = 7 ∨ k = 8 by omega) with rfl | rfl | rfl | rfl | rfl | rfl | rfl | rfl | rfl <;> rfl
  · rcases (show k = 0 ∨ k = 1 ∨ k = 2 by omega) with rfl | rfl | rfl <;> decide +kernel
theorem law_RW0 : RW 0 0 (fun _ => (lt_si0, lt_sa0)) lt_si0 lt_sa0 lt_si0 lt_sa0 0 (fun _ => 0) lt_mi0 lt_ma0 :=
  ⟨⟨0, by omega, rfl, rfl, fun j hj => absurd hj (by omega)⟩, ⟨0, 0, 0, law_RS0⟩, Or.inl ⟨rfl, rfl⟩, 0, by omega, rfl, rfl, fun k hk => absurd hk (by omega)⟩
set_option maxHeartbeats 4000000 in
set_option maxRecDepth 100000 in
/-- YOUR PART: from the entry, for every script of at most 1536 ints, the law comes to its end with true -/
theorem whole_start {p : Program} {e : Env} {s : State} {m : MethodId} {below : List Frame} {meth : Method} {c : Code} (l : Launch) (hflags : l.flags = flags0) {b L : Nat} {xs : Nat → Int32} (hL : L ≤ 1536) (C0 : lw_At p s m meth c b L xs) : W p l e room_1 s m #[Value.ref b] below meth c s.heap [] 0 0 (lw_Z below #[Value.ref b] s) (entryFrame m ([Value.ref b] : List Value).toArray 4) := by
  obtain ⟨D, yI, yC, yO, hK0, hAO, hZf, hZt⟩ := lv_start C0
  obtain ⟨hx, hb, hr, hml, hown, hts, hX, hbl, hlocks, hgv⟩ := id C0
  have hts := fun w h => hts w (wsL_law_in w h)
  have hK := hK0.1
  have hN := hK0.2
  have hA : ∀ q : Nat, s.heap.size ≤ q → (fun q => s.heap.size ≤ q) q := fun _ h => h
  have hS : va_S (fun q : Nat => s.heap.size ≤ q) s.heap s.heap [] := va_S.rf
  have hP : va_P D vwCl [] s.heap := fun k q h => by simp at h
  have hD : va_D (fun q : Nat => s.heap.size ≤ q) [] := ⟨fun i j p q h => by simp at h, fun k q h => by simp at h⟩
  have hl := lv_entry ([.ref b]) (n := 4) (Nat.le_of_ble_eq_true rfl)
  rw [lg_entry_eq]
  generalize (lg_sl ([.ref b]) ++ List.replicate (4 - (lg_sl ([.ref b])).length) Slot.unset).toArray = ls at hl ⊢
  have hl : lv_has ls 4 [(0, .ref b)] := hl
  refine va_new (ci := 7) (fs := [.null, .null, .null, .null, .null, .null, .int 0]) (C := RX7) (T := TX7) (N := 7) hx hb hts inlX7 tyX7 tyX7_ok hown (hts (.classLink RL 7 RX7) (by decide +kernel)) (hts (.instantiable RX7 7) (by decide +kernel)) (hts (.initialized RX7) (by decide +kernel)) hK hP hD hS hA rfl (fun j hj => by rcases (show j = 0 ∨ j = 1 ∨ j = 2 ∨ j = 3 ∨ j = 4 ∨ j = 5 ∨ j = 6 by omega) with rfl | rfl | rfl | rfl | rfl | rfl | rfl <;> rfl) (Nat.le_of_ble_eq_true rfl) (Nat.le_of_ble_eq_true rfl) dL_law_0 (fun q7 H hP hD hS => ?_)
  have hP : va_P D vwCl [(q7, .inr (7, [.null, .null, .null, .null, .null, .null, .int 0]))] H := hP
  have hD : va_D (fun q : Nat => s.heap.size ≤ q) [(q7, .inr (7, [.null, .null, .null, .null, .null, .null, .int 0]))] := hD
  refine lv_dup hx hb dL_law_3 rfl ?_
  have hPc := hP.sub (ws' := [(q7, .inr (7, [.null, .null, .null, .null, .null, .null, .int 0]))]) [0] rfl
  have hDc := hD.sub (ws' := [(q7, .inr (7, [.null, .null, .null, .null, .null, .null, .int 0]))]) [0] (by decide) rfl
  refine lt_cWc (wc := [(q7, .inr (7, [.null, .null, .null, .null, .null, .null, .int 0]))]) (wr := []) (va_runI (As := []) (rest := [.ref q7]) ⟨hx, hb, hml, hown, hts⟩ (c_X7_init l D yI yC yO q7 _) (cwI 0 hts gL_law_X7_init rfl rfl rfl (hts (.initialized RX7) (by decide +kernel)) (hts (.methodLink RL 9 yX7_init) (by decide +kernel)) (hts (.instanceMethod yX7_init) (by decide +kernel)) rfl (by decide +kernel) ⟨Nat.le_of_ble_eq_true rfl, Nat.le_of_ble_eq_true rfl⟩) (lt_qSf hK0 hPc hDc hAO hZf hS (va_free (wc := [(q7, .inr (7, [.null, .null, .null, .null, .null, .null, .int 0]))]) hD hS hA [0] rfl)) rfl rfl hl.1 rfl (lv_room (Nat.le_of_ble_eq_true rfl)) dL_law_4 ⟨Nat.le_of_ble_eq_true rfl, Nat.le_of_ble_eq_true rfl⟩) hP hD hS hA [0] [] rfl rfl (by decide) (by decide) (fun (u : lt_UL) H locs hP hD hS => ?_)
  have hP : va_P D vwCl (lt_Lt q7 (u 0) (u 1) (u 2) (u 3) (u 4) (u 5) 0 ++ (lt_Hi yI yO (u 3) 0 (fun k => u (k + 10)) (fun _ => (lt_si0, lt_sa0)) ++ (lt_St yI (u 0) lt_si0 lt_sa0 ++ (lt_St yI (u 1) lt_si0 lt_sa0 ++ (lt_St yI (u 2) lt_si0 lt_sa0 ++ (lt_Tx yC (u 4) 0 (fun _ => 0) ++ lt_Pg yI (u 5) 0 0 (fun _ => 0) (fun _ => 0))))))) H := hP
  have hD : va_D (fun q : Nat => s.heap.size ≤ q) (lt_Lt q7 (u 0) (u 1) (u 2) (u 3) (u 4) (u 5) 0 ++ (lt_Hi yI yO (u 3) 0 (fun k => u (k + 10)) (fun _ => (lt_si0, lt_sa0)) ++ (lt_St yI (u 0) lt_si0 lt_sa0 ++ (lt_St yI (u 1) lt_si0 lt_sa0 ++ (lt_St yI (u 2) lt_si0 lt_sa0 ++ (lt_Tx yC (u 4) 0 (fun _ => 0) ++ lt_Pg yI (u 5) 0 0 (fun _ => 0) (fun _ => 0))))))) := hD
  refine lv_astore_n (lv' := [(1, .ref q7), (0, .ref b)]) hx hb dL_law_7 rfl hl (by decide) rfl (fun ls hl => ?_)
  refine va_new (ci := 8) (fs := [.null, .null, .null, .int 0, .null, .int 0, .null, .int 0, .null, .null, .int 0, .null, .int 0]) (C := RX8) (T := TX8) (N := 13) hx hb hts inlX8 tyX8 tyX8_ok hown (hts (.classLink RL 10 RX8) (by decide +kernel)) (hts (.instantiable RX8 13) (by decide +kernel)) (hts (.initialized RX8) (by decide +kernel)) hK hP hD hS hA rfl (fun j hj => by rcases (show j = 0 ∨ j = 1 ∨ j = 2 ∨ j = 3 ∨ j = 4 ∨ j = 5 ∨ j = 6 ∨ j = 7 ∨ j = 8 ∨ j = 9 ∨ j = 10 ∨ j = 11 ∨ j = 12 by omega) with rfl | rfl | rfl | rfl | rfl | rfl | rfl | rfl | rfl | rfl | rfl | rfl | rfl <;> rfl) (Nat.le_of_ble_eq_true rfl) (Nat.le_of_ble_eq_true rfl) dL_law_8 (fun q8 H hP hD hS => ?_)
  have hP : va_P D vwCl ((lt_Lt q7 (u 0) (u 1) (u 2) (u 3) (u 4) (u 5) 0 ++ (lt_Hi yI yO (u 3) 0 (fun k => u (k + 10)) (fun _ => (lt_si0, lt_sa0)) ++ (lt_St yI (u 0) lt_si0 lt_sa0 ++ (lt_St yI (u 1) lt_si0 lt_sa0 ++ (lt_St yI (u 2) lt_si0 lt_sa0 ++ (lt_Tx yC (u 4) 0 (fun _ => 0) ++ lt_Pg yI (u 5) 0 0 (fun _ => 0) (fun _ => 0))))))) ++ [(q8, .inr (8, [.null, .null, .null, .int 0, .null, .int 0, .null, .int 0, .null, .null, .int 0, .null, .int 0]))]) H := hP
  have hD : va_D (fun q : Nat => s.heap.size ≤ q) ((lt_Lt q7 (u 0) (u 1) (u 2) (u 3) (u 4) (u 5) 0 ++ (lt_Hi yI yO (u 3) 0 (fun k => u (k + 10)) (fun _ => (lt_si0, lt_sa0)) ++ (lt_St yI (u 0) lt_si0 lt_sa0 ++ (lt_St yI (u 1) lt_si0 lt_sa0 ++ (lt_St yI (u 2) lt_si0 lt_sa0 ++ (lt_Tx yC (u 4) 0 (fun _ => 0) ++ lt_Pg yI (u 5) 0 0 (fun _ => 0) (fun _ => 0))))))) ++ [(q8, .inr (8, [.null, .null, .null, .int 0, .null, .int 0, .null, .int 0, .null, .null, .int 0, .null, .int 0]))]) := hD
  refine lv_dup hx hb dL_law_11 rfl ?_
  have hPc := hP.sub (ws' := [(q8, .inr (8, [.null, .null, .null, .int 0, .null, .int 0, .null, .int 0, .null, .null, .int 0, .null, .int 0]))]) [143] rfl
  have hDc := hD.sub (ws' := [(q8, .inr (8, [.null, .null, .null, .int 0, .null, .int 0, .null, .int 0, .null, .null, .int 0, .null, .int 0]))]) [143] (by decide) rfl
  refine lt_cWc (wc := [(q8, .inr (8, [.null, .null, .null, .int 0, .null, .int 0, .null, .int 0, .null, .null, .int 0, .null, .int 0]))]) (wr := (lt_Lt q7 (u 0) (u 1) (u 2) (u 3) (u 4) (u 5) 0 ++ (lt_Hi yI yO (u 3) 0 (fun k => u (k + 10)) (fun _ => (lt_si0, lt_sa0)) ++ (lt_St yI (u 0) lt_si0 lt_sa0 ++ (lt_St yI (u 1) lt_si0 lt_sa0 ++ (lt_St yI (u 2) lt_si0 lt_sa0 ++ (lt_Tx yC (u 4) 0 (fun _ => 0) ++ lt_Pg yI (u 5) 0 0 (fun _ => 0) (fun _ => 0)))))))) (va_runI (As := []) (rest := [.ref q8]) ⟨hx, hb, hml, hown, hts⟩ (c_X8_init l D yI yC yO q8 _) (cwI 0 hts gL_law_X8_init rfl rfl rfl (hts (.initialized RX8) (by decide +kernel)) (hts (.methodLink RL 12 yX8_init) (by decide +kernel)) (hts (.instanceMethod yX8_init) (by decide +kernel)) rfl (by decide +kernel) ⟨Nat.le_of_ble_eq_true rfl, Nat.le_of_ble_eq_true rfl⟩) (lt_qS hK0 hPc hDc) rfl rfl hl.1 rfl (lv_room (Nat.le_of_ble_eq_true rfl)) dL_law_12 ⟨Nat.le_of_ble_eq_true rfl, Nat.le_of_ble_eq_true rfl⟩) hP hD hS hA [143] [0, 1, 2, 3, 4, 5, 6, 7, 8, 9, 10, 11, 12, 13, 14, 15, 16, 17, 18, 19, 20, 21, 22, 23, 24, 25, 26, 27, 28, 29, 30, 31, 32, 33, 34, 35, 36, 37, 38, 39, 40, 41, 42, 43, 44, 45, 46, 47, 48, 49, 50, 51, 52, 53, 54, 55, 56, 57, 58, 59, 60, 61, 62, 63, 64, 65, 66, 67, 68, 69, 70, 71, 72, 73, 74, 75, 76, 77, 78, 79, 80, 81, 82, 83, 84, 85, 86, 87, 88, 89, 90, 91, 92, 93, 94, 95, 96, 97, 98, 99, 100, 101, 102, 103, 104, 105, 106, 107, 108, 109, 110, 111, 112, 113, 114, 115, 116, 117, 118, 119, 120, 121, 122, 123, 124, 125, 126, 127, 128, 129, 130, 131, 132, 133, 134, 135, 136, 137, 138, 139, 140, 141, 142] rfl rfl (by decide) (by decide) (fun (u8 : Nat → Nat) H locs hP hD hS => ?_)
  have hP := hP.sub (ws' := lt_Lt q7 (u 0) (u 1) (u 2) (u 3) (u 4) (u 5) 0 ++ (lt_Hi yI yO (u 3) 0 (fun k => u (k + 10)) (fun _ => (lt_si0, lt_sa0)) ++ (lt_St yI (u 0) lt_si0 lt_sa0 ++ (lt_St yI (u 1) lt_si0 lt_sa0 ++ (lt_St yI (u 2) lt_si0 lt_sa0 ++ (lt_Tx yC (u 4) 0 (fun _ => 0) ++ (lt_Pg yI (u 5) 0 0 (fun _ => 0) (fun _ => 0) ++ lt_Md yI yC (lt_b0 q8 u8) lt_mi0 lt_ma0))))))) [0, 1, 2, 3, 4, 5, 6, 7, 8, 9, 10, 11, 12, 13, 14, 15, 16, 17, 18, 19, 20, 21, 22, 23, 24, 25, 26, 27, 28, 29, 30, 31, 32, 33, 34, 35, 36, 37, 38, 39, 40, 41, 42, 43, 44, 45, 46, 47, 48, 49, 50, 51, 52, 53, 54, 55, 56, 57, 58, 59, 60, 61, 62, 63, 64, 65, 66, 67, 68, 69, 70, 71, 72, 73, 74, 75, 76, 77, 78, 79, 80, 81, 82, 83, 84, 85, 86, 87, 88, 89, 90, 91, 92, 93, 94, 95, 96, 97, 98, 99, 100, 101, 102, 103, 104, 105, 106, 107, 108, 109, 110, 111, 112, 113, 114, 115, 116, 117, 118, 119, 120, 121, 122, 123, 124, 125, 126, 127, 128, 129, 130, 131, 132, 133, 134, 135, 136, 137, 138, 139, 140, 141, 142, 143, 144, 145, 146, 147, 148, 149, 150, 151] rfl
  have hD := hD.sub (ws' := lt_Lt q7 (u 0) (u 1) (u 2) (u 3) (u 4) (u 5) 0 ++ (lt_Hi yI yO (u 3) 0 (fun k => u (k + 10)) (fun _ => (lt_si0, lt_sa0)) ++ (lt_St yI (u 0) lt_si0 lt_sa0 ++ (lt_St yI (u 1) lt_si0 lt_sa0 ++ (lt_St yI (u 2) lt_si0 lt_sa0 ++ (lt_Tx yC (u 4) 0 (fun _ => 0) ++ (lt_Pg yI (u 5) 0 0 (fun _ => 0) (fun _ => 0) ++ lt_Md yI yC (lt_b0 q8 u8) lt_mi0 lt_ma0))))))) [0, 1, 2, 3, 4, 5, 6, 7, 8, 9, 10, 11, 12, 13, 14, 15, 16, 17, 18, 19, 20, 21, 22, 23, 24, 25, 26, 27, 28, 29, 30, 31, 32, 33, 34, 35, 36, 37, 38, 39, 40, 41, 42, 43, 44, 45, 46, 47, 48, 49, 50, 51, 52, 53, 54, 55, 56, 57, 58, 59, 60, 61, 62, 63, 64, 65, 66, 67, 68, 69, 70, 71, 72, 73, 74, 75, 76, 77, 78, 79, 80, 81, 82, 83, 84, 85, 86, 87, 88, 89, 90, 91, 92, 93, 94, 95, 96, 97, 98, 99, 100, 101, 102, 103, 104, 105, 106, 107, 108, 109, 110, 111, 112, 113, 114, 115, 116, 117, 118, 119, 120, 121, 122, 123, 124, 125, 126, 127, 128, 129, 130, 131, 132, 133, 134, 135, 136, 137, 138, 139, 140, 141, 142, 143, 144, 145, 146, 147, 148, 149, 150, 151] (by decide) rfl
  refine lv_astore_n (lv' := [(2, .ref q8), (1, .ref q7), (0, .ref b)]) hx hb dL_law_15 rfl hl (by decide) rfl (fun ls hl => ?_)
  refine lv_iconst (v := 0) hx hb dL_law_16 (by decide) ?_
  refine lv_istore_n (lv' := [(3, .int 0), (2, .ref q8), (1, .ref q7), (0, .ref b)]) hx hb dL_law_17 rfl hl (by decide) rfl (fun ls hl => ?_)
  refine W.widen (k := 152) (n := 7541) (by decide) (by decide) ?_
  exact law_loop hL C0 hK0 hZt (L + 1) 0 0 (Nat.zero_le L) (by omega) nI_0.symm _ _ _ ⟨q7, u 0, u 1, u 2, u 3, u 4, u 5, lt_b0 q8 u8, 0, 0, (fun k => u (k + 10)), (fun _ => (lt_si0, lt_sa0)), lt_si0, lt_sa0, lt_si0, lt_sa0, lt_si0, lt_sa0, 0, (fun _ => 0), 0, 0, (fun _ => 0), (fun _ => 0), lt_mi0, lt_ma0, law_RW0, hP, hD, hS, lv_sub hl [0, 1, 2, 3] rfl⟩
