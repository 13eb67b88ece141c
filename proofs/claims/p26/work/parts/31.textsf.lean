/-! ===== texts: the states and the answers ===== -/
theorem tl_a1 : (lo_types lo_t0 48).1 = 1 := by decide +kernel
theorem tl_b1 : (lo_types (lo_types lo_t0 48).2 0).1 = 1 := by decide +kernel
theorem tl_z1 : lt_hz (lo_types (lo_types lo_t0 48).2 0).2.2.1 := by unfold lt_hz; decide +kernel
theorem tl_c1 : (lo_takeBook (lo_types (lo_types lo_t0 48).2 0).2).1 = (-100) := by decide +kernel
theorem tl_d1 : (lo_count (lo_takeBook (lo_types (lo_types lo_t0 48).2 0).2).2 15).1 = 0 := by decide +kernel
theorem tl_e1 : (lo_count (lo_takeBook (lo_types (lo_types lo_t0 48).2 0).2).2 0).1 = 0 := by decide +kernel
theorem tl_a2 : (lo_types lo_t0 3240752).1 = 1 := by decide +kernel
theorem tl_b2 : (lo_types (lo_types lo_t0 3240752).2 0).1 = 1 := by decide +kernel
theorem tl_z2 : lt_hz (lo_types (lo_types lo_t0 3240752).2 0).2.2.1 := by unfold lt_hz; decide +kernel
theorem tl_c2 : (lo_takeBook (lo_types (lo_types lo_t0 3240752).2 0).2).1 = (-102) := by decide +kernel
theorem tl_d2 : (lo_count (lo_takeBook (lo_types (lo_types lo_t0 3240752).2 0).2).2 15).1 = 0 := by decide +kernel
theorem tl_e2 : (lo_count (lo_takeBook (lo_types (lo_types lo_t0 3240752).2 0).2).2 0).1 = 0 := by decide +kernel
theorem tl_a3 : (lo_types lo_t0 3222049).1 = 1 := by decide +kernel
theorem tl_b3 : (lo_types (lo_types lo_t0 3222049).2 0).1 = 1 := by decide +kernel
theorem tl_z3 : lt_hz (lo_types (lo_types lo_t0 3222049).2 0).2.2.1 := by unfold lt_hz; decide +kernel
theorem tl_c3 : (lo_takeBook (lo_types (lo_types lo_t0 3222049).2 0).2).1 = (-102) := by decide +kernel
theorem tl_d3 : (lo_count (lo_takeBook (lo_types (lo_types lo_t0 3222049).2 0).2).2 15).1 = 0 := by decide +kernel
theorem tl_e3 : (lo_count (lo_takeBook (lo_types (lo_types lo_t0 3222049).2 0).2).2 0).1 = 0 := by decide +kernel
theorem tl_a4 : (lo_types lo_t0 12659).1 = 1 := by decide +kernel
theorem tl_b4 : (lo_types (lo_types lo_t0 12659).2 0).1 = 1 := by decide +kernel
theorem tl_z4 : lt_hz (lo_types (lo_types lo_t0 12659).2 0).2.2.1 := by unfold lt_hz; decide +kernel
theorem tl_c4 : (lo_takeBook (lo_types (lo_types lo_t0 12659).2 0).2).1 = (-102) := by decide +kernel
theorem tl_d4 : (lo_count (lo_takeBook (lo_types (lo_types lo_t0 12659).2 0).2).2 15).1 = 0 := by decide +kernel
theorem tl_e4 : (lo_count (lo_takeBook (lo_types (lo_types lo_t0 12659).2 0).2).2 0).1 = 0 := by decide +kernel
theorem tl_a5 : (lo_types lo_t0 12594).1 = 1 := by decide +kernel
theorem tl_b5 : (lo_types (lo_types lo_t0 12594).2 0).1 = 1 := by decide +kernel
theorem tl_z5 : lt_hz (lo_types (lo_types lo_t0 12594).2 0).2.2.1 := by unfold lt_hz; decide +kernel
theorem tl_c5 : (lo_takeBook (lo_types (lo_types lo_t0 12594).2 0).2).1 = (-101) := by decide +kernel
theorem tl_d5 : (lo_count (lo_takeBook (lo_types (lo_types lo_t0 12594).2 0).2).2 15).1 = 0 := by decide +kernel
theorem tl_e5 : (lo_count (lo_takeBook (lo_types (lo_types lo_t0 12594).2 0).2).2 0).1 = 0 := by decide +kernel
theorem tl_a6 : (lo_types lo_t0 212386261548).1 = 1 := by decide +kernel
theorem tl_b6 : (lo_types (lo_types lo_t0 212386261548).2 0).1 = 1 := by decide +kernel
theorem tl_z6 : lt_hz (lo_types (lo_types lo_t0 212386261548).2 0).2.2.1 := by unfold lt_hz; decide +kernel
theorem tl_c6 : (lo_takeBook (lo_types (lo_types lo_t0 212386261548).2 0).2).1 = (-105) := by decide +kernel
theorem tl_d6 : (lo_count (lo_takeBook (lo_types (lo_types lo_t0 212386261548).2 0).2).2 15).1 = 0 := by decide +kernel
theorem tl_e6 : (lo_count (lo_takeBook (lo_types (lo_types lo_t0 212386261548).2 0).2).2 0).1 = 0 := by decide +kernel
theorem tl_a7 : (lo_types lo_t0 44).1 = 1 := by decide +kernel
theorem tl_b7 : (lo_types (lo_types lo_t0 44).2 0).1 = 1 := by decide +kernel
theorem tl_z7 : lt_hz (lo_types (lo_types lo_t0 44).2 0).2.2.1 := by unfold lt_hz; decide +kernel
theorem tl_c7 : (lo_takeBook (lo_types (lo_types lo_t0 44).2 0).2).1 = (-100) := by decide +kernel
theorem tl_d7 : (lo_count (lo_takeBook (lo_types (lo_types lo_t0 44).2 0).2).2 15).1 = 0 := by decide +kernel
theorem tl_e7 : (lo_count (lo_takeBook (lo_types (lo_types lo_t0 44).2 0).2).2 0).1 = 0 := by decide +kernel
theorem tl_a8 : (lo_types lo_t0 0).1 = 1 := by decide +kernel
theorem tl_b8 : (lo_types (lo_types lo_t0 0).2 0).1 = 1 := by decide +kernel
theorem tl_z8 : lt_hz (lo_types (lo_types lo_t0 0).2 0).2.2.1 := by unfold lt_hz; decide +kernel
theorem tl_c8 : (lo_takeBook (lo_types (lo_types lo_t0 0).2 0).2).1 = (-100) := by decide +kernel
theorem tl_d8 : (lo_count (lo_takeBook (lo_types (lo_types lo_t0 0).2 0).2).2 15).1 = 0 := by decide +kernel
theorem tl_e8 : (lo_count (lo_takeBook (lo_types (lo_types lo_t0 0).2 0).2).2 0).1 = 0 := by decide +kernel
theorem tl_a9 : (lo_types lo_t0 57).1 = 1 := by decide +kernel
theorem tl_b9 : (lo_types (lo_types lo_t0 57).2 0).1 = 1 := by decide +kernel
theorem tl_z9 : lt_hz (lo_types (lo_types lo_t0 57).2 0).2.2.1 := by unfold lt_hz; decide +kernel
theorem tl_c9 : (lo_takeBook (lo_types (lo_types lo_t0 57).2 0).2).1 = 1 := by decide +kernel
theorem tl_d9 : (lo_count (lo_takeBook (lo_types (lo_types lo_t0 57).2 0).2).2 15).1 = 1 := by decide +kernel
theorem tl_e9 : (lo_count (lo_takeBook (lo_types (lo_types lo_t0 57).2 0).2).2 0).1 = 1 := by decide +kernel
theorem tl_a10 : (lo_types lo_t0 3563254544818383404).1 = 1 := by decide +kernel
theorem tl_b10 : (lo_types (lo_types lo_t0 3563254544818383404).2 51).1 = 1 := by decide +kernel
theorem tl_z10 : lt_hz (lo_types (lo_types lo_t0 3563254544818383404).2 51).2.2.1 := by unfold lt_hz; decide +kernel
theorem tl_c10 : (lo_takeBook (lo_types (lo_types lo_t0 3563254544818383404).2 51).2).1 = 3 := by decide +kernel
theorem tl_d10 : (lo_count (lo_takeBook (lo_types (lo_types lo_t0 3563254544818383404).2 51).2).2 15).1 = 1 := by decide +kernel
theorem tl_e10 : (lo_count (lo_takeBook (lo_types (lo_types lo_t0 3563254544818383404).2 51).2).2 0).1 = 3 := by decide +kernel
theorem tl_a11 : (lo_types lo_t0 29489).1 = 1 := by decide +kernel
theorem tl_b11 : (lo_types (lo_types lo_t0 29489).2 0).1 = 1 := by decide +kernel
theorem tl_z11 : lt_hz (lo_types (lo_types lo_t0 29489).2 0).2.2.1 := by unfold lt_hz; decide +kernel
theorem tl_c11 : (lo_takeBook (lo_types (lo_types lo_t0 29489).2 0).2).1 = (-100) := by decide +kernel
theorem tl_d11 : (lo_count (lo_takeBook (lo_types (lo_types lo_t0 29489).2 0).2).2 15).1 = 0 := by decide +kernel
theorem tl_e11 : (lo_count (lo_takeBook (lo_types (lo_types lo_t0 29489).2 0).2).2 0).1 = 0 := by decide +kernel
theorem tl_a12 : (lo_types lo_t0 824275762).1 = 1 := by decide +kernel
theorem tl_b12 : (lo_types (lo_types lo_t0 824275762).2 0).1 = 1 := by decide +kernel
theorem tl_z12 : lt_hz (lo_types (lo_types lo_t0 824275762).2 0).2.2.1 := by unfold lt_hz; decide +kernel
theorem tl_c12 : (lo_takeBook (lo_types (lo_types lo_t0 824275762).2 0).2).1 = (-102) := by decide +kernel
theorem tl_d12 : (lo_count (lo_takeBook (lo_types (lo_types lo_t0 824275762).2 0).2).2 15).1 = 0 := by decide +kernel
theorem tl_e12 : (lo_count (lo_takeBook (lo_types (lo_types lo_t0 824275762).2 0).2).2 0).1 = 0 := by decide +kernel
theorem tl_a13 : (lo_types lo_t0 3419180).1 = 1 := by decide +kernel
theorem tl_b13 : (lo_types (lo_types lo_t0 3419180).2 0).1 = 1 := by decide +kernel
theorem tl_z13 : lt_hz (lo_types (lo_types lo_t0 3419180).2 0).2.2.1 := by unfold lt_hz; decide +kernel
theorem tl_c13 : (lo_takeBook (lo_types (lo_types lo_t0 3419180).2 0).2).1 = (-102) := by decide +kernel
theorem tl_d13 : (lo_count (lo_takeBook (lo_types (lo_types lo_t0 3419180).2 0).2).2 15).1 = 0 := by decide +kernel
theorem tl_e13 : (lo_count (lo_takeBook (lo_types (lo_types lo_t0 3419180).2 0).2).2 0).1 = 0 := by decide +kernel
theorem tl_a14 : (lo_types lo_t0 896742709).1 = 1 := by decide +kernel
theorem tl_b14 : (lo_types (lo_types lo_t0 896742709).2 0).1 = 1 := by decide +kernel
theorem tl_z14 : lt_hz (lo_types (lo_types lo_t0 896742709).2 0).2.2.1 := by unfold lt_hz; decide +kernel
theorem tl_c14 : (lo_takeBook (lo_types (lo_types lo_t0 896742709).2 0).2).1 = (-103) := by decide +kernel
theorem tl_d14 : (lo_count (lo_takeBook (lo_types (lo_types lo_t0 896742709).2 0).2).2 15).1 = 0 := by decide +kernel
theorem tl_e14 : (lo_count (lo_takeBook (lo_types (lo_types lo_t0 896742709).2 0).2).2 0).1 = 0 := by decide +kernel
def lo_st : Nat → lo_T
  | 0 => lo_t0
  | k + 1 => (lo_takeBook (lo_type (lo_type (lo_st k) 49).2 44).2).2
theorem lo_stf : ∀ k, k < 29 → (lo_type (lo_st k) 49).1 = 2 * nI k + 1 ∧ (lo_type (lo_type (lo_st k) 49).2 44).1 = 2 * nI k + 2 ∧ (lo_takeBook (lo_type (lo_type (lo_st k) 49).2 44).2).1 = (-102) - 2 * nI k ∧ (lo_type (lo_type (lo_st k) 49).2 44).2.2.1 = 0 := by decide +kernel
def tx_q : lo_T := lo_st 29
def tx_s1 : lo_T := (lo_type tx_q 49).2
theorem tx_a1 : (lo_type tx_q 49).1 = 59 := by decide +kernel
def tx_s2 : lo_T := (lo_takeBook tx_s1).2
theorem tx_a2 : (lo_takeBook tx_s1).1 = 30 := by decide +kernel
theorem tx_z2 : lt_hz tx_s1.2.1 := by unfold lt_hz; decide +kernel
def tx_s3 : lo_T := (lo_type tx_s2 44).2
theorem tx_a3 : (lo_type tx_s2 44).1 = 60 := by decide +kernel
def tx_s4 : lo_T := (lo_takeBook tx_s3).2
theorem tx_a4 : (lo_takeBook tx_s3).1 = (-159) := by decide +kernel
theorem tx_z4 : lt_hz tx_s3.2.1 := by unfold lt_hz; decide +kernel
def tx_s5 : lo_T := (lo_type tx_s4 49).2
theorem tx_a5 : (lo_type tx_s4 49).1 = (-3) := by decide +kernel
theorem tx_a6 : (lo_count tx_s5 0).1 = 30 := by decide +kernel
theorem tx_a7 : (lo_count tx_s5 16).1 = 60 := by decide +kernel
def tx_s6 : lo_T := (lo_clearText tx_s5).2
theorem tx_a8 : (lo_clearText tx_s5).1 = 60 := by decide +kernel
def tx_s7 : lo_T := (lo_takeBook tx_s6).2
theorem tx_a9 : (lo_takeBook tx_s6).1 = (-100) := by decide +kernel
theorem tx_z9 : lt_hz tx_s6.2.1 := by unfold lt_hz; decide +kernel
def tx_s8 : lo_T := (lo_clearText tx_s7).2
theorem tx_a10 : (lo_clearText tx_s7).1 = 0 := by decide +kernel
theorem tx_a11 : (lo_count tx_s8 0).1 = 30 := by decide +kernel
