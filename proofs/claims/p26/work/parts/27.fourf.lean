/-! ===== four leaves by hand: the states and the answers ===== -/
def f4_s1 : lo_T := (lo_undo lo_t0).2
theorem f4_a1 : (lo_undo lo_t0).1 = (-5) := by decide +kernel
theorem f4_z1 : lt_hz lo_t0.2.1 := by unfold lt_hz; decide +kernel
def f4_s2 : lo_T := (lo_restore f4_s1).2
theorem f4_a2 : (lo_restore f4_s1).1 = (-5) := by decide +kernel
theorem f4_z2 : lt_hz f4_s1.2.1 := by unfold lt_hz; decide +kernel
def f4_s3 : lo_T := (lo_shoot f4_s2).2
theorem f4_a3 : (lo_shoot f4_s2).1 = (-4) := by decide +kernel
theorem f4_z3 : lt_hz f4_s2.2.1 := by unfold lt_hz; decide +kernel
def f4_s4 : lo_T := (lo_scan f4_s3 1).2
theorem f4_a4 : (lo_scan f4_s3 1).1 = (-4) := by decide +kernel
theorem f4_z4 : lt_hz f4_s3.2.1 := by unfold lt_hz; decide +kernel
def f4_s5 : lo_T := (lo_turnBack f4_s4).2
theorem f4_a5 : (lo_turnBack f4_s4).1 = (-4) := by decide +kernel
theorem f4_z5 : lt_hz f4_s4.2.1 := by unfold lt_hz; decide +kernel
theorem f4_a6 : (lo_best f4_s5).1 = (-4) := by decide +kernel
theorem f4_a7 : (lo_lacking f4_s5 0).1 = (-5) := by decide +kernel
theorem f4_a8 : (lo_open f4_s5 1).1 = (-5) := by decide +kernel
def f4_s6 : lo_T := (lo_types f4_s5 3707369780239152243).2
theorem f4_a9 : (lo_types f4_s5 3707369780239152243).1 = 1 := by decide +kernel
def f4_s7 : lo_T := (lo_types f4_s6 228340805921).2
theorem f4_a10 : (lo_types f4_s6 228340805921).1 = 1 := by decide +kernel
def f4_s8 : lo_T := (lo_takeBook f4_s7).2
theorem f4_a11 : (lo_takeBook f4_s7).1 = 4 := by decide +kernel
theorem f4_z11 : lt_hz f4_s7.2.1 := by unfold lt_hz; decide +kernel
theorem f4_a12 : (lo_leaf f4_s8 0 1).1 = 9 := by decide +kernel
theorem f4_a13 : (lo_leaf f4_s8 2 0).1 = 4 := by decide +kernel
theorem f4_a14 : (lo_page f4_s8 4 0).1 = (-5) := by decide +kernel
theorem f4_a15 : (lo_page f4_s8 6 0).1 = 9 := by decide +kernel
theorem f4_a16 : (lo_page f4_s8 7 0).1 = 10 := by decide +kernel
theorem f4_a17 : (lo_page f4_s8 3 0).1 = 4 := by decide +kernel
theorem f4_a18 : (lo_would f4_s8 6).1 = 2 := by decide +kernel
theorem f4_a19 : (lo_would f4_s8 2).1 = 0 := by decide +kernel
theorem f4_a20 : (lo_would f4_s8 3).1 = 1 := by decide +kernel
theorem f4_a21 : (lo_would f4_s8 4).1 = 1 := by decide +kernel
theorem f4_a22 : (lo_would f4_s8 11).1 = 2 := by decide +kernel
theorem f4_a23 : (lo_would f4_s8 12).1 = 1 := by decide +kernel
theorem f4_a24 : (lo_would f4_s8 20).1 = 1 := by decide +kernel
theorem f4_a25 : (lo_best f4_s8).1 = 3 := by decide +kernel
theorem f4_a26 : (lo_open f4_s8 0).1 = (-5) := by decide +kernel
theorem f4_a27 : (lo_open f4_s8 1).1 = 0 := by decide +kernel
def f4_s9 : lo_T := (lo_shoot f4_s8).2
theorem f4_a28 : (lo_shoot f4_s8).1 = 1 := by decide +kernel
theorem f4_z28 : lt_hz f4_s8.2.1 := by unfold lt_hz; decide +kernel
theorem f4_a29 : (lo_picture f4_s9 0 1).1 = 1 := by decide +kernel
theorem f4_a30 : (lo_picture f4_s9 0 3).1 = 0 := by decide +kernel
theorem f4_g31 : lo_G f4_s9 := ⟨4, 1, by decide, by decide, by decide, by decide +kernel, by decide +kernel⟩
theorem f4_z31 : lt_hz f4_s9.2.1 := by unfold lt_hz; decide +kernel
def f4_s10 : lo_T := (lo_turn f4_s9).2
theorem f4_a32 : (lo_turn f4_s9).1 = 2 := by decide +kernel
theorem f4_z32 : lt_hz f4_s9.2.1 := by unfold lt_hz; decide +kernel
theorem f4_a33 : (lo_count f4_s10 1).1 = 2 := by decide +kernel
theorem f4_a34 : (lo_count f4_s10 8).1 = 1 := by decide +kernel
theorem f4_a35 : (lo_open f4_s10 0).1 = 3 := by decide +kernel
theorem f4_a36 : (lo_open f4_s10 1).1 = 4 := by decide +kernel
def f4_s11 : lo_T := (lo_shoot f4_s10).2
theorem f4_a37 : (lo_shoot f4_s10).1 = 2 := by decide +kernel
theorem f4_z37 : lt_hz f4_s10.2.1 := by unfold lt_hz; decide +kernel
theorem f4_a38 : (lo_picture f4_s11 1 1).1 = 4 := by decide +kernel
theorem f4_a39 : (lo_picture f4_s11 1 3).1 = 3 := by decide +kernel
theorem f4_a40 : (lo_picture f4_s11 2 1).1 = (-5) := by decide +kernel
theorem f4_a41 : (lo_picture f4_s11 2 2).1 = 1 := by decide +kernel
theorem f4_a42 : (lo_picture f4_s11 2 3).1 = 4 := by decide +kernel
theorem f4_a43 : (lo_count f4_s11 3).1 = 5 := by decide +kernel
theorem f4_a44 : (lo_lacking f4_s11 0).1 = 1 := by decide +kernel
theorem f4_a45 : (lo_lacking f4_s11 4).1 = 7 := by decide +kernel
theorem f4_a46 : (lo_lacking f4_s11 5).1 = (-5) := by decide +kernel
def f4_s12 : lo_T := (lo_turn f4_s11).2
theorem f4_a47 : (lo_turn f4_s11).1 = 2 := by decide +kernel
theorem f4_z47 : lt_hz f4_s11.2.1 := by unfold lt_hz; decide +kernel
theorem f4_a48 : (lo_count f4_s12 8).1 = 2 := by decide +kernel
def f4_s13 : lo_T := (lo_shoot f4_s12).2
theorem f4_a49 : (lo_shoot f4_s12).1 = 1 := by decide +kernel
theorem f4_z49 : lt_hz f4_s12.2.1 := by unfold lt_hz; decide +kernel
theorem f4_a50 : (lo_picture f4_s13 3 0).1 = 7 := by decide +kernel
theorem f4_a51 : (lo_picture f4_s13 3 1).1 = 10 := by decide +kernel
theorem f4_a52 : (lo_picture f4_s13 3 3).1 = 5 := by decide +kernel
theorem f4_a53 : (lo_page f4_s13 5 1).1 = 3 := by decide +kernel
theorem f4_a54 : (lo_page f4_s13 5 3).1 = 1 := by decide +kernel
theorem f4_a55 : (lo_count f4_s13 4).1 = 1 := by decide +kernel
theorem f4_a56 : (lo_count f4_s13 5).1 = 0 := by decide +kernel
theorem f4_a57 : (lo_count f4_s13 6).1 = 0 := by decide +kernel
def f4_s14 : lo_T := (lo_turn f4_s13).2
theorem f4_a58 : (lo_turn f4_s13).1 = (-4) := by decide +kernel
theorem f4_z58 : lt_hz f4_s13.2.1 := by unfold lt_hz; decide +kernel
def f4_s15 : lo_T := (lo_turnBack f4_s14).2
theorem f4_a59 : (lo_turnBack f4_s14).1 = 3 := by decide +kernel
theorem f4_z59 : lt_hz f4_s14.2.1 := by unfold lt_hz; decide +kernel
theorem f4_a60 : (lo_open f4_s15 0).1 = 5 := by decide +kernel
theorem f4_a61 : (lo_open f4_s15 1).1 = 6 := by decide +kernel
def f4_s16 : lo_T := (lo_shoot f4_s15).2
theorem f4_a62 : (lo_shoot f4_s15).1 = 2 := by decide +kernel
theorem f4_z62 : lt_hz f4_s15.2.1 := by unfold lt_hz; decide +kernel
theorem f4_a63 : (lo_picture f4_s16 4 1).1 = (-5) := by decide +kernel
theorem f4_a64 : (lo_picture f4_s16 4 3).1 = 6 := by decide +kernel
theorem f4_a65 : (lo_picture f4_s16 5 1).1 = 0 := by decide +kernel
theorem f4_a66 : (lo_picture f4_s16 5 2).1 = 0 := by decide +kernel
theorem f4_a67 : (lo_picture f4_s16 5 3).1 = 7 := by decide +kernel
theorem f4_a68 : (lo_picture f4_s16 5 5).1 = 1 := by decide +kernel
theorem f4_a69 : (lo_picture f4_s16 4 5).1 = 0 := by decide +kernel
theorem f4_a70 : (lo_picture f4_s16 5 6).1 = 3 := by decide +kernel
theorem f4_a71 : (lo_count f4_s16 14).1 = 4 := by decide +kernel
theorem f4_a72 : (lo_count f4_s16 4).1 = 3 := by decide +kernel
theorem f4_a73 : (lo_count f4_s16 3).1 = 2 := by decide +kernel
def f4_s17 : lo_T := (lo_throwAway f4_s16 3).2
theorem f4_a74 : (lo_throwAway f4_s16 3).1 = 5 := by decide +kernel
theorem f4_z74 : lt_hz f4_s16.2.1 := by unfold lt_hz; decide +kernel
theorem f4_a75 : (lo_picture f4_s17 3 3).1 = 5 := by decide +kernel
theorem f4_a76 : (lo_picture f4_s17 4 3).1 = 6 := by decide +kernel
theorem f4_a77 : (lo_picture f4_s17 4 6).1 = 3 := by decide +kernel
theorem f4_a78 : (lo_count f4_s17 4).1 = 0 := by decide +kernel
theorem f4_a79 : (lo_count f4_s17 3).1 = 3 := by decide +kernel
theorem f4_a80 : (lo_lacking f4_s17 2).1 = 7 := by decide +kernel
def f4_s18 : lo_T := (lo_print f4_s17 5 6).2
theorem f4_a81 : (lo_print f4_s17 5 6).1 = 200 := by decide +kernel
theorem f4_z81 : lt_hz f4_s17.2.1 := by unfold lt_hz; decide +kernel
def f4_s19 : lo_T := (lo_print f4_s18 5 6).2
theorem f4_a82 : (lo_print f4_s18 5 6).1 = (-5) := by decide +kernel
theorem f4_z82 : lt_hz f4_s18.2.1 := by unfold lt_hz; decide +kernel
def f4_s20 : lo_T := (lo_print f4_s19 0 (-5)).2
theorem f4_a83 : (lo_print f4_s19 0 (-5)).1 = 1 := by decide +kernel
theorem f4_z83 : lt_hz f4_s19.2.1 := by unfold lt_hz; decide +kernel
def f4_s21 : lo_T := (lo_print f4_s20 0 (-5)).2
theorem f4_a84 : (lo_print f4_s20 0 (-5)).1 = (-5) := by decide +kernel
theorem f4_z84 : lt_hz f4_s20.2.1 := by unfold lt_hz; decide +kernel
theorem f4_a85 : (lo_picture f4_s21 0 1).1 = 1 := by decide +kernel
def f4_s22 : lo_T := (lo_shoot f4_s21).2
theorem f4_a86 : (lo_shoot f4_s21).1 = 2 := by decide +kernel
theorem f4_z86 : lt_hz f4_s21.2.1 := by unfold lt_hz; decide +kernel
theorem f4_a87 : (lo_picture f4_s22 5 1).1 = 6 := by decide +kernel
theorem f4_a88 : (lo_picture f4_s22 5 3).1 = 5 := by decide +kernel
theorem f4_a89 : (lo_picture f4_s22 5 4).1 = 1 := by decide +kernel
theorem f4_a90 : (lo_picture f4_s22 3 4).1 = 0 := by decide +kernel
theorem f4_a91 : (lo_page f4_s22 5 2).1 = 2 := by decide +kernel
theorem f4_a92 : (lo_count f4_s22 5).1 = 2 := by decide +kernel
theorem f4_a93 : (lo_page f4_s22 6 4).1 = 0 := by decide +kernel
theorem f4_a94 : (lo_page f4_s22 0 4).1 = 1 := by decide +kernel
theorem f4_a95 : (lo_page f4_s22 1 4).1 = 0 := by decide +kernel
theorem f4_g96 : lo_G f4_s22 := ⟨4, 7, by decide, by decide, by decide, by decide +kernel, by decide +kernel⟩
theorem f4_z96 : lt_hz f4_s22.2.1 := by unfold lt_hz; decide +kernel
def f4_s23 : lo_T := (lo_set f4_s22 2 0).2
theorem f4_a97 : (lo_set f4_s22 2 0).1 = 1 := by decide +kernel
theorem f4_z97 : lt_hz f4_s22.2.1 := by unfold lt_hz; decide +kernel
theorem f4_a98 : (lo_picture f4_s23 0 3).1 = 1 := by decide +kernel
theorem f4_a99 : (lo_page f4_s23 1 3).1 = 1 := by decide +kernel
theorem f4_a100 : (lo_count f4_s23 15).1 = 4 := by decide +kernel
def f4_s24 : lo_T := (lo_undo f4_s23).2
theorem f4_a101 : (lo_undo f4_s23).1 = 3 := by decide +kernel
theorem f4_z101 : lt_hz f4_s23.2.1 := by unfold lt_hz; decide +kernel
theorem f4_a102 : (lo_picture f4_s24 0 3).1 = 0 := by decide +kernel
def f4_s25 : lo_T := (lo_undo f4_s24).2
theorem f4_a103 : (lo_undo f4_s24).1 = 2 := by decide +kernel
theorem f4_z103 : lt_hz f4_s24.2.1 := by unfold lt_hz; decide +kernel
theorem f4_a104 : (lo_count f4_s25 2).1 = 5 := by decide +kernel
def f4_s26 : lo_T := (lo_undo f4_s25).2
theorem f4_a105 : (lo_undo f4_s25).1 = 1 := by decide +kernel
theorem f4_z105 : lt_hz f4_s25.2.1 := by unfold lt_hz; decide +kernel
theorem f4_a106 : (lo_page f4_s26 0 0).1 = 1 := by decide +kernel
def f4_s27 : lo_T := (lo_keep f4_s26).2
theorem f4_a107 : (lo_keep f4_s26).1 = 5 := by decide +kernel
def f4_s28 : lo_T := (lo_takeBook f4_s27).2
theorem f4_a108 : (lo_takeBook f4_s27).1 = 4 := by decide +kernel
theorem f4_z108 : lt_hz f4_s27.2.1 := by unfold lt_hz; decide +kernel
theorem f4_a109 : (lo_count f4_s28 2).1 = 0 := by decide +kernel
theorem f4_a110 : (lo_count f4_s28 14).1 = 0 := by decide +kernel
theorem f4_a111 : (lo_count f4_s28 7).1 = 0 := by decide +kernel
def f4_s29 : lo_T := (lo_restore f4_s28).2
theorem f4_a112 : (lo_restore f4_s28).1 = 5 := by decide +kernel
theorem f4_z112 : lt_hz f4_s28.2.1 := by unfold lt_hz; decide +kernel
theorem f4_a113 : (lo_count f4_s29 14).1 = 4 := by decide +kernel
