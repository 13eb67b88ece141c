/-! ===== scans: the states and the answers ===== -/
def sc_s1 : lo_T := (lo_layBook lo_t0 5 0).2
theorem sc_a1 : (lo_layBook lo_t0 5 0).1 = 15 := by decide +kernel
theorem sc_z1 : lt_hz lo_t0.2.1 := by unfold lt_hz; decide +kernel
theorem sc_a2 : (lo_leaf sc_s1 0 0).1 = 4 := by decide +kernel
theorem sc_a3 : (lo_leaf sc_s1 0 1).1 = 6 := by decide +kernel
theorem sc_a4 : (lo_leaf sc_s1 1 1).1 = 8 := by decide +kernel
theorem sc_a5 : (lo_leaf sc_s1 3 1).1 = 0 := by decide +kernel
theorem sc_a6 : (lo_leaf sc_s1 4 0).1 = 1 := by decide +kernel
theorem sc_a7 : (lo_page sc_s1 0 0).1 = (-5) := by decide +kernel
theorem sc_a8 : (lo_page sc_s1 1 0).1 = (-5) := by decide +kernel
theorem sc_a9 : (lo_page sc_s1 2 0).1 = 3 := by decide +kernel
theorem sc_a10 : (lo_page sc_s1 9 0).1 = 10 := by decide +kernel
def sc_s2 : lo_T := (lo_scan sc_s1 1).2
theorem sc_a11 : (lo_scan sc_s1 1).1 = 1 := by decide +kernel
theorem sc_z11 : lt_hz sc_s1.2.1 := by unfold lt_hz; decide +kernel
theorem sc_a12 : (lo_count sc_s2 1).1 = 2 := by decide +kernel
def sc_s3 : lo_T := (lo_scan sc_s2 60).2
theorem sc_a13 : (lo_scan sc_s2 60).1 = 7 := by decide +kernel
theorem sc_z13 : lt_hz sc_s2.2.1 := by unfold lt_hz; decide +kernel
theorem sc_a14 : (lo_count sc_s3 1).1 = 5 := by decide +kernel
theorem sc_a15 : (lo_count sc_s3 7).1 = 4 := by decide +kernel
theorem sc_a16 : (lo_count sc_s3 8).1 = 1 := by decide +kernel
theorem sc_a17 : (lo_count sc_s3 2).1 = 8 := by decide +kernel
theorem sc_a18 : (lo_count sc_s3 14).1 = 5 := by decide +kernel
def sc_s4 : lo_T := (lo_scan sc_s3 1).2
theorem sc_a19 : (lo_scan sc_s3 1).1 = 1 := by decide +kernel
theorem sc_z19 : lt_hz sc_s3.2.1 := by unfold lt_hz; decide +kernel
theorem sc_a20 : (lo_count sc_s4 14).1 = 6 := by decide +kernel
theorem sc_a21 : (lo_count sc_s4 7).1 = 4 := by decide +kernel
theorem sc_g22 : lo_G sc_s4 := ⟨5, 9, by decide, by decide, by decide, by decide +kernel, by decide +kernel⟩
theorem sc_z22 : lt_hz sc_s4.2.1 := by unfold lt_hz; decide +kernel
def sc_s5 : lo_T := (lo_set lo_t0 1 1).2
theorem sc_a23 : (lo_set lo_t0 1 1).1 = 0 := by decide +kernel
theorem sc_z23 : lt_hz lo_t0.2.1 := by unfold lt_hz; decide +kernel
def sc_s6 : lo_T := (lo_setSuction sc_s5 5).2
theorem sc_a24 : (lo_setSuction sc_s5 5).1 = 6 := by decide +kernel
theorem sc_z24 : lt_hz sc_s5.2.1 := by unfold lt_hz; decide +kernel
def sc_s7 : lo_T := (lo_types sc_s6 4119730621103485228).2
theorem sc_a25 : (lo_types sc_s6 4119730621103485228).1 = 1 := by decide +kernel
def sc_s8 : lo_T := (lo_types sc_s7 3543261072711694636).2
theorem sc_a26 : (lo_types sc_s7 3543261072711694636).1 = 1 := by decide +kernel
def sc_s9 : lo_T := (lo_types sc_s8 3222577).2
theorem sc_a27 : (lo_types sc_s8 3222577).1 = 1 := by decide +kernel
def sc_s10 : lo_T := (lo_takeBook sc_s9).2
theorem sc_a28 : (lo_takeBook sc_s9).1 = 9 := by decide +kernel
theorem sc_z28 : lt_hz sc_s9.2.1 := by unfold lt_hz; decide +kernel
def sc_s11 : lo_T := (lo_scan sc_s10 2).2
theorem sc_a29 : (lo_scan sc_s10 2).1 = 2 := by decide +kernel
theorem sc_z29 : lt_hz sc_s10.2.1 := by unfold lt_hz; decide +kernel
theorem sc_a30 : (lo_count sc_s11 9).1 = 2 := by decide +kernel
theorem sc_a31 : (lo_count sc_s11 10).1 = 9 := by decide +kernel
def sc_s12 : lo_T := (lo_turn sc_s11).2
theorem sc_a32 : (lo_turn sc_s11).1 = 1 := by decide +kernel
theorem sc_z32 : lt_hz sc_s11.2.1 := by unfold lt_hz; decide +kernel
def sc_s13 : lo_T := (lo_turn sc_s12).2
theorem sc_a33 : (lo_turn sc_s12).1 = 1 := by decide +kernel
theorem sc_z33 : lt_hz sc_s12.2.1 := by unfold lt_hz; decide +kernel
def sc_s14 : lo_T := (lo_turn sc_s13).2
theorem sc_a34 : (lo_turn sc_s13).1 = 1 := by decide +kernel
theorem sc_z34 : lt_hz sc_s13.2.1 := by unfold lt_hz; decide +kernel
def sc_s15 : lo_T := (lo_turn sc_s14).2
theorem sc_a35 : (lo_turn sc_s14).1 = 1 := by decide +kernel
theorem sc_z35 : lt_hz sc_s14.2.1 := by unfold lt_hz; decide +kernel
theorem sc_a36 : (lo_count sc_s15 10).1 = 9 := by decide +kernel
def sc_s16 : lo_T := (lo_turn sc_s15).2
theorem sc_a37 : (lo_turn sc_s15).1 = 1 := by decide +kernel
theorem sc_z37 : lt_hz sc_s15.2.1 := by unfold lt_hz; decide +kernel
theorem sc_a38 : (lo_count sc_s16 10).1 = 8 := by decide +kernel
def sc_s17 : lo_T := (lo_turn sc_s16).2
theorem sc_a39 : (lo_turn sc_s16).1 = 1 := by decide +kernel
theorem sc_z39 : lt_hz sc_s16.2.1 := by unfold lt_hz; decide +kernel
theorem sc_a40 : (lo_count sc_s17 10).1 = 8 := by decide +kernel
theorem sc_a41 : (lo_would sc_s17 8).1 = 2 := by decide +kernel
def sc_s18 : lo_T := (lo_turn sc_s17).2
theorem sc_a42 : (lo_turn sc_s17).1 = 2 := by decide +kernel
theorem sc_z42 : lt_hz sc_s17.2.1 := by unfold lt_hz; decide +kernel
theorem sc_a43 : (lo_count sc_s18 10).1 = 9 := by decide +kernel
def sc_s19 : lo_T := (lo_turn sc_s18).2
theorem sc_a44 : (lo_turn sc_s18).1 = 1 := by decide +kernel
theorem sc_z44 : lt_hz sc_s18.2.1 := by unfold lt_hz; decide +kernel
theorem sc_a45 : (lo_count sc_s19 1).1 = 9 := by decide +kernel
theorem sc_a46 : (lo_count sc_s19 7).1 = 10 := by decide +kernel
def sc_s20 : lo_T := (lo_setSuction sc_s19 20).2
theorem sc_a47 : (lo_setSuction sc_s19 20).1 = 9 := by decide +kernel
theorem sc_z47 : lt_hz sc_s19.2.1 := by unfold lt_hz; decide +kernel
def sc_s21 : lo_T := (lo_clearText sc_s20).2
theorem sc_a48 : (lo_clearText sc_s20).1 = 19 := by decide +kernel
def sc_s22 : lo_T := (lo_types sc_s21 245555080241).2
theorem sc_a49 : (lo_types sc_s21 245555080241).1 = 1 := by decide +kernel
def sc_s23 : lo_T := (lo_takeBook sc_s22).2
theorem sc_a50 : (lo_takeBook sc_s22).1 = 3 := by decide +kernel
theorem sc_z50 : lt_hz sc_s22.2.1 := by unfold lt_hz; decide +kernel
theorem sc_a51 : (lo_count sc_s23 10).1 = 20 := by decide +kernel
def sc_s24 : lo_T := (lo_setSuction sc_s23 19).2
theorem sc_a52 : (lo_setSuction sc_s23 19).1 = 20 := by decide +kernel
theorem sc_z52 : lt_hz sc_s23.2.1 := by unfold lt_hz; decide +kernel
def sc_s25 : lo_T := (lo_print sc_s24 0 150).2
theorem sc_a53 : (lo_print sc_s24 0 150).1 = 1 := by decide +kernel
theorem sc_z53 : lt_hz sc_s24.2.1 := by unfold lt_hz; decide +kernel
def sc_s26 : lo_T := (lo_set sc_s25 0 10).2
theorem sc_a54 : (lo_set sc_s25 0 10).1 = 2 := by decide +kernel
theorem sc_z54 : lt_hz sc_s25.2.1 := by unfold lt_hz; decide +kernel
def sc_s27 : lo_T := (lo_shoot sc_s26).2
theorem sc_a55 : (lo_shoot sc_s26).1 = 1 := by decide +kernel
theorem sc_z55 : lt_hz sc_s26.2.1 := by unfold lt_hz; decide +kernel
theorem sc_a56 : (lo_picture sc_s27 0 2).1 = 1 := by decide +kernel
theorem sc_a57 : (lo_picture sc_s27 0 1).1 = 150 := by decide +kernel
def sc_s28 : lo_T := (lo_types lo_t0 55).2
theorem sc_a58 : (lo_types lo_t0 55).1 = 1 := by decide +kernel
def sc_s29 : lo_T := (lo_takeBook sc_s28).2
theorem sc_a59 : (lo_takeBook sc_s28).1 = 1 := by decide +kernel
theorem sc_z59 : lt_hz sc_s28.2.1 := by unfold lt_hz; decide +kernel
def lo_sq : Nat → lo_T
  | 0 => sc_s29
  | k + 1 => (lo_shoot (lo_sq k)).2
theorem lo_sqf : ∀ k, k < 80 → (lo_shoot (lo_sq k)).1 = 1 ∧ (lo_count (lo_sq (k + 1)) 2).1 = nI k + 1 ∧ ((lo_sq k).2.1 = 0 ∨ (lo_sq k).2.1 = 1 ∨ (lo_sq k).2.1 = 2 ∨ (lo_sq k).2.1 = 3 ∨ (lo_sq k).2.1 = 4) := by decide +kernel
def sc_q : lo_T := lo_sq 80
def sc_s30 : lo_T := (lo_shoot sc_q).2
theorem sc_a60 : (lo_shoot sc_q).1 = (-3) := by decide +kernel
theorem sc_z60 : lt_hz sc_q.2.1 := by unfold lt_hz; decide +kernel
def sc_s31 : lo_T := (lo_scan sc_s30 1).2
theorem sc_a61 : (lo_scan sc_s30 1).1 = (-3) := by decide +kernel
theorem sc_z61 : lt_hz sc_s30.2.1 := by unfold lt_hz; decide +kernel
theorem sc_a62 : (lo_count sc_s31 2).1 = 80 := by decide +kernel
theorem sc_a63 : (lo_count sc_s31 7).1 = 0 := by decide +kernel
def sc_s32 : lo_T := (lo_turn sc_s31).2
theorem sc_a64 : (lo_turn sc_s31).1 = 0 := by decide +kernel
theorem sc_z64 : lt_hz sc_s31.2.1 := by unfold lt_hz; decide +kernel
theorem sc_a65 : (lo_count sc_s32 9).1 = 1 := by decide +kernel
def sc_s33 : lo_T := (lo_throwAway sc_s32 0).2
theorem sc_a66 : (lo_throwAway sc_s32 0).1 = 79 := by decide +kernel
theorem sc_z66 : lt_hz sc_s32.2.1 := by unfold lt_hz; decide +kernel
def sc_s34 : lo_T := (lo_scan sc_s33 1).2
theorem sc_a67 : (lo_scan sc_s33 1).1 = 1 := by decide +kernel
theorem sc_z67 : lt_hz sc_s33.2.1 := by unfold lt_hz; decide +kernel
theorem sc_a68 : (lo_picture sc_s34 79 6).1 = 80 := by decide +kernel
theorem sc_a69 : (lo_count sc_s34 5).1 = 79 := by decide +kernel
def sc_s35 : lo_T := (lo_scan sc_s34 0).2
theorem sc_a70 : (lo_scan sc_s34 0).1 = (-2) := by decide +kernel
theorem sc_z70 : lt_hz sc_s34.2.1 := by unfold lt_hz; decide +kernel
theorem sc_g71 : lo_G sc_s35 := ⟨1, 80, by decide, by decide, by decide, by decide +kernel, by decide +kernel⟩
theorem sc_z71 : lt_hz sc_s35.2.1 := by unfold lt_hz; decide +kernel
