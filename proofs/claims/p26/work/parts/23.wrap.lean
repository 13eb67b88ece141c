/-! ===== one object whole: its state σ (snapshot kept?, history's size, its states, the state now, the trial, the snapshot, the text), what no answer shows u (the history's places, the page set) ===== -/
abbrev lo_T : Type := Int32 × Int32 × (Nat → lt_SV) × lt_SV × lt_SV × lt_SV × Int32 × (Nat → Int32)
abbrev lo_U : Type := (Nat → Nat → Nat) × Int32 × Int32 × (Nat → Int32) × (Nat → Int32)
def lo_O (yI yC yO : ClassId) (h : Nat) (Ad : Nat → Nat → Nat) (σ : lo_T) (u : lo_U) : va_W := lt_Lt h (Ad 0) (Ad 1) (Ad 2) (Ad 3) (Ad 4) (Ad 5) σ.1 ++ (lt_Hi yI yO (Ad 3) σ.2.1 u.1 σ.2.2.1 ++ (lt_St yI (Ad 0) σ.2.2.2.1.1 σ.2.2.2.1.2 ++ (lt_St yI (Ad 1) σ.2.2.2.2.1.1 σ.2.2.2.2.1.2 ++ (lt_St yI (Ad 2) σ.2.2.2.2.2.1.1 σ.2.2.2.2.2.1.2 ++ (lt_Tx yC (Ad 4) σ.2.2.2.2.2.2.1 σ.2.2.2.2.2.2.2 ++ (lt_Pg yI (Ad 5) u.2.1 u.2.2.1 u.2.2.2.1 u.2.2.2.2))))))
theorem lo_q8 {α : Type} (a b c d e f g : List α) : (a ++ (b ++ (c ++ (d ++ (e ++ (f ++ (g))))))).Perm ((d ++ (e)) ++ (a ++ (b ++ (c ++ (f ++ (g)))))) := by
  letI : DecidableEq α := fun x y => Classical.propDecidable (x = y)
  rw [List.perm_iff_count]
  intro q
  simp only [List.count_append]
  omega
theorem lo_q7 {α : Type} (a b c d e f g : List α) : (a ++ (b ++ (c ++ (d ++ (e ++ (f ++ (g))))))).Perm ((b ++ (d ++ (e ++ (f)))) ++ (a ++ (c ++ (g)))) := by
  letI : DecidableEq α := fun x y => Classical.propDecidable (x = y)
  rw [List.perm_iff_count]
  intro q
  simp only [List.count_append]
  omega
theorem lo_q6 {α : Type} (a b c d e f g : List α) : (a ++ (b ++ (c ++ (d ++ (e ++ (f ++ (g))))))).Perm ((b ++ (d ++ (e ++ (f ++ (g))))) ++ (a ++ (c))) := by
  letI : DecidableEq α := fun x y => Classical.propDecidable (x = y)
  rw [List.perm_iff_count]
  intro q
  simp only [List.count_append]
  omega
theorem lo_q5 {α : Type} (a b c d e f g : List α) : (a ++ (b ++ (c ++ (d ++ (e ++ (f ++ (g))))))).Perm ((b ++ (c ++ (d ++ (e ++ (g))))) ++ (a ++ (f))) := by
  letI : DecidableEq α := fun x y => Classical.propDecidable (x = y)
  rw [List.perm_iff_count]
  intro q
  simp only [List.count_append]
  omega
theorem lo_q4 {α : Type} (a b c d e f g : List α) : (a ++ (b ++ (c ++ (d ++ (e ++ (f ++ (g))))))).Perm ((b ++ (d ++ (f ++ (g)))) ++ (a ++ (c ++ (e)))) := by
  letI : DecidableEq α := fun x y => Classical.propDecidable (x = y)
  rw [List.perm_iff_count]
  intro q
  simp only [List.count_append]
  omega
theorem lo_q3 {α : Type} (a b c d e f g : List α) : (a ++ (b ++ (c ++ (d ++ (e ++ (f ++ (g))))))).Perm ((e ++ (g)) ++ (a ++ (b ++ (c ++ (d ++ (f)))))) := by
  letI : DecidableEq α := fun x y => Classical.propDecidable (x = y)
  rw [List.perm_iff_count]
  intro q
  simp only [List.count_append]
  omega
theorem lo_q2 {α : Type} (a b c d e f g : List α) : (a ++ (b ++ (c ++ (d ++ (e ++ (f ++ (g))))))).Perm ((e ++ (f ++ (g))) ++ (a ++ (b ++ (c ++ (d))))) := by
  letI : DecidableEq α := fun x y => Classical.propDecidable (x = y)
  rw [List.perm_iff_count]
  intro q
  simp only [List.count_append]
  omega
theorem lo_q1 {α : Type} (a b c d e f g : List α) : (a ++ (b ++ (c ++ (d ++ (e ++ (f ++ (g))))))).Perm ((d ++ (f ++ (g))) ++ (a ++ (b ++ (c ++ (e))))) := by
  letI : DecidableEq α := fun x y => Classical.propDecidable (x = y)
  rw [List.perm_iff_count]
  intro q
  simp only [List.count_append]
  omega
theorem lo_q0 {α : Type} (a b c d e f g : List α) : (a ++ (b ++ (c ++ (d ++ (e ++ (f ++ (g))))))).Perm ((d ++ (e ++ (f ++ (g)))) ++ (a ++ (b ++ (c)))) := by
  letI : DecidableEq α := fun x y => Classical.propDecidable (x = y)
  rw [List.perm_iff_count]
  intro q
  simp only [List.count_append]
  omega
def lo_t0 : lo_T := (0, 0, (fun _ => (lt_si0, lt_sa0)), (lt_si0, lt_sa0), (lt_si0, lt_sa0), (lt_si0, lt_sa0), 0, (fun _ => 0))
theorem lo_O0 (yI yC yO : ClassId) (h : Nat) (Ad : Nat → Nat → Nat) (σ : lo_T) (u : lo_U) : (lo_O yI yC yO h Ad σ u)[0]? = some (h, .inr (7, [.ref (Ad 0 0), .ref (Ad 1 0), .ref (Ad 2 0), .ref (Ad 3 0), .ref (Ad 4 0), .ref (Ad 5 0), .int σ.1])) := rfl
def lo_turn (σ : lo_T) : Int32 × lo_T := let x := X7_turn σ.1 σ.2.1 lo_zB σ.2.2.1 σ.2.2.2.1.1 σ.2.2.2.1.2; (x.1, (σ.1, x.2.1, x.2.2.2.1, (x.2.2.2.2.1, x.2.2.2.2.2), σ.2.2.2.2))
theorem lo_i_turn (hs z : Int32) (B B' : Nat → Nat → Nat) (Vh : Nat → lt_SV) (i0 : Nat → Int32) (a0 : Nat → Nat → Int32) : ∃ Bn, X7_turn hs z B Vh i0 a0 = ((X7_turn hs z B' Vh i0 a0).1, (X7_turn hs z B' Vh i0 a0).2.1, Bn, (X7_turn hs z B' Vh i0 a0).2.2.2) := by
  unfold X7_turn
  try dsimp only
  repeat' split
  all_goals exact ⟨_, rfl⟩
set_option maxHeartbeats 4000000 in
set_option maxRecDepth 100000 in
theorem lo_c_turn (l : Launch) (D : va_G) (yI yC yO : ClassId) (h : Nat) (Ad : Nat → Nat → Nat) (σ : lo_T) (u : lo_U) (sz : Nat) (hz : lt_hz σ.2.1) : Met l yX7_turn wsX7_turn ({ frames := 5, cells := 0, slots := 0, locals := 150 }) (va_Pc [.ref h] (lo_M D yI yC yO (lo_O yI yC yO h Ad σ u) sz)) (lo_Q D (lo_turn σ).1 (lo_O yI yC yO h Ad (lo_turn σ).2) (va_A (lo_O yI yC yO h Ad σ u) sz)) 0 0 (va_A (lo_O yI yC yO h Ad σ u) sz) := by
  have hM := c_X7_turn l D yI yC yO h (Ad 0) (Ad 1) (Ad 2) (Ad 3) (Ad 4) (Ad 5) σ.1 σ.2.1 u.1 σ.2.2.1 σ.2.2.2.1.1 σ.2.2.2.1.2 sz hz
  obtain ⟨Bn, e⟩ := lo_i_turn σ.1 σ.2.1 u.1 lo_zB σ.2.2.1 σ.2.2.2.1.1 σ.2.2.2.1.2
  rw [e] at hM
  unfold lo_turn
  dsimp only
  clear e
  generalize X7_turn σ.1 σ.2.1 lo_zB σ.2.2.1 σ.2.2.2.1.1 σ.2.2.2.1.2 = x0 at hM ⊢
  exact lo_frI (wr := lt_St yI (Ad 1) σ.2.2.2.2.1.1 σ.2.2.2.2.1.2 ++ (lt_St yI (Ad 2) σ.2.2.2.2.2.1.1 σ.2.2.2.2.2.1.2 ++ (lt_Tx yC (Ad 4) σ.2.2.2.2.2.2.1 σ.2.2.2.2.2.2.2 ++ (lt_Pg yI (Ad 5) u.2.1 u.2.2.1 u.2.2.2.1 u.2.2.2.2)))) hM (lo_q0 _ _ _ _ _ _ _) (fun U q => q.1) ((Bn, u.2) : lo_U) rfl (lo_q0 _ _ _ _ _ _ _).symm

def lo_turnBack (σ : lo_T) : Int32 × lo_T := let x := X7_turnBack σ.1 σ.2.1 lo_zB σ.2.2.1 σ.2.2.2.1.1 σ.2.2.2.1.2; (x.1, (σ.1, x.2.1, x.2.2.2.1, (x.2.2.2.2.1, x.2.2.2.2.2), σ.2.2.2.2))
theorem lo_i_turnBack (hs z : Int32) (B B' : Nat → Nat → Nat) (Vh : Nat → lt_SV) (i0 : Nat → Int32) (a0 : Nat → Nat → Int32) : ∃ Bn, X7_turnBack hs z B Vh i0 a0 = ((X7_turnBack hs z B' Vh i0 a0).1, (X7_turnBack hs z B' Vh i0 a0).2.1, Bn, (X7_turnBack hs z B' Vh i0 a0).2.2.2) := by
  unfold X7_turnBack
  try dsimp only
  repeat' split
  all_goals exact ⟨_, rfl⟩
set_option maxHeartbeats 4000000 in
set_option maxRecDepth 100000 in
theorem lo_c_turnBack (l : Launch) (D : va_G) (yI yC yO : ClassId) (h : Nat) (Ad : Nat → Nat → Nat) (σ : lo_T) (u : lo_U) (sz : Nat) (hz : lt_hz σ.2.1) : Met l yX7_turnBack wsX7_turnBack ({ frames := 5, cells := 0, slots := 0, locals := 150 }) (va_Pc [.ref h] (lo_M D yI yC yO (lo_O yI yC yO h Ad σ u) sz)) (lo_Q D (lo_turnBack σ).1 (lo_O yI yC yO h Ad (lo_turnBack σ).2) (va_A (lo_O yI yC yO h Ad σ u) sz)) 0 0 (va_A (lo_O yI yC yO h Ad σ u) sz) := by
  have hM := c_X7_turnBack l D yI yC yO h (Ad 0) (Ad 1) (Ad 2) (Ad 3) (Ad 4) (Ad 5) σ.1 σ.2.1 u.1 σ.2.2.1 σ.2.2.2.1.1 σ.2.2.2.1.2 sz hz
  obtain ⟨Bn, e⟩ := lo_i_turnBack σ.1 σ.2.1 u.1 lo_zB σ.2.2.1 σ.2.2.2.1.1 σ.2.2.2.1.2
  rw [e] at hM
  unfold lo_turnBack
  dsimp only
  clear e
  generalize X7_turnBack σ.1 σ.2.1 lo_zB σ.2.2.1 σ.2.2.2.1.1 σ.2.2.2.1.2 = x0 at hM ⊢
  exact lo_frI (wr := lt_St yI (Ad 1) σ.2.2.2.2.1.1 σ.2.2.2.2.1.2 ++ (lt_St yI (Ad 2) σ.2.2.2.2.2.1.1 σ.2.2.2.2.2.1.2 ++ (lt_Tx yC (Ad 4) σ.2.2.2.2.2.2.1 σ.2.2.2.2.2.2.2 ++ (lt_Pg yI (Ad 5) u.2.1 u.2.2.1 u.2.2.2.1 u.2.2.2.2)))) hM (lo_q0 _ _ _ _ _ _ _) (fun U q => q.1) ((Bn, u.2) : lo_U) rfl (lo_q0 _ _ _ _ _ _ _).symm

def lo_shoot (σ : lo_T) : Int32 × lo_T := let x := X7_shoot σ.1 σ.2.1 lo_zB σ.2.2.1 σ.2.2.2.1.1 σ.2.2.2.1.2; (x.1, (σ.1, x.2.1, x.2.2.2.1, (x.2.2.2.2.1, x.2.2.2.2.2), σ.2.2.2.2))
theorem lo_i_shoot (hs z : Int32) (B B' : Nat → Nat → Nat) (Vh : Nat → lt_SV) (i0 : Nat → Int32) (a0 : Nat → Nat → Int32) : ∃ Bn, X7_shoot hs z B Vh i0 a0 = ((X7_shoot hs z B' Vh i0 a0).1, (X7_shoot hs z B' Vh i0 a0).2.1, Bn, (X7_shoot hs z B' Vh i0 a0).2.2.2) := by
  unfold X7_shoot
  try dsimp only
  repeat' split
  all_goals exact ⟨_, rfl⟩
set_option maxHeartbeats 4000000 in
set_option maxRecDepth 100000 in
theorem lo_c_shoot (l : Launch) (D : va_G) (yI yC yO : ClassId) (h : Nat) (Ad : Nat → Nat → Nat) (σ : lo_T) (u : lo_U) (sz : Nat) (hz : lt_hz σ.2.1) : Met l yX7_shoot wsX7_shoot ({ frames := 5, cells := 0, slots := 0, locals := 150 }) (va_Pc [.ref h] (lo_M D yI yC yO (lo_O yI yC yO h Ad σ u) sz)) (lo_Q D (lo_shoot σ).1 (lo_O yI yC yO h Ad (lo_shoot σ).2) (va_A (lo_O yI yC yO h Ad σ u) sz)) 0 0 (va_A (lo_O yI yC yO h Ad σ u) sz) := by
  have hM := c_X7_shoot l D yI yC yO h (Ad 0) (Ad 1) (Ad 2) (Ad 3) (Ad 4) (Ad 5) σ.1 σ.2.1 u.1 σ.2.2.1 σ.2.2.2.1.1 σ.2.2.2.1.2 sz hz
  obtain ⟨Bn, e⟩ := lo_i_shoot σ.1 σ.2.1 u.1 lo_zB σ.2.2.1 σ.2.2.2.1.1 σ.2.2.2.1.2
  rw [e] at hM
  unfold lo_shoot
  dsimp only
  clear e
  generalize X7_shoot σ.1 σ.2.1 lo_zB σ.2.2.1 σ.2.2.2.1.1 σ.2.2.2.1.2 = x0 at hM ⊢
  exact lo_frI (wr := lt_St yI (Ad 1) σ.2.2.2.2.1.1 σ.2.2.2.2.1.2 ++ (lt_St yI (Ad 2) σ.2.2.2.2.2.1.1 σ.2.2.2.2.2.1.2 ++ (lt_Tx yC (Ad 4) σ.2.2.2.2.2.2.1 σ.2.2.2.2.2.2.2 ++ (lt_Pg yI (Ad 5) u.2.1 u.2.2.1 u.2.2.2.1 u.2.2.2.2)))) hM (lo_q0 _ _ _ _ _ _ _) (fun U q => q.1) ((Bn, u.2) : lo_U) rfl (lo_q0 _ _ _ _ _ _ _).symm

def lo_undo (σ : lo_T) : Int32 × lo_T := let x := X7_undo σ.1 σ.2.1 lo_zB σ.2.2.1 σ.2.2.2.1.1 σ.2.2.2.1.2; (x.1, (σ.1, x.2.1, x.2.2.2.1, (x.2.2.2.2.1, x.2.2.2.2.2), σ.2.2.2.2))
theorem lo_i_undo (hs z : Int32) (B B' : Nat → Nat → Nat) (Vh : Nat → lt_SV) (i0 : Nat → Int32) (a0 : Nat → Nat → Int32) : ∃ Bn, X7_undo hs z B Vh i0 a0 = ((X7_undo hs z B' Vh i0 a0).1, (X7_undo hs z B' Vh i0 a0).2.1, Bn, (X7_undo hs z B' Vh i0 a0).2.2.2) := by
  unfold X7_undo
  try dsimp only
  repeat' split
  all_goals exact ⟨_, rfl⟩
set_option maxHeartbeats 4000000 in
set_option maxRecDepth 100000 in
theorem lo_c_undo (l : Launch) (D : va_G) (yI yC yO : ClassId) (h : Nat) (Ad : Nat → Nat → Nat) (σ : lo_T) (u : lo_U) (sz : Nat) (hz : lt_hz σ.2.1) : Met l yX7_undo wsX7_undo ({ frames := 5, cells := 0, slots := 0, locals := 150 }) (va_Pc [.ref h] (lo_M D yI yC yO (lo_O yI yC yO h Ad σ u) sz)) (lo_Q D (lo_undo σ).1 (lo_O yI yC yO h Ad (lo_undo σ).2) (va_A (lo_O yI yC yO h Ad σ u) sz)) 0 0 (va_A (lo_O yI yC yO h Ad σ u) sz) := by
  have hM := c_X7_undo l D yI yC yO h (Ad 0) (Ad 1) (Ad 2) (Ad 3) (Ad 4) (Ad 5) σ.1 σ.2.1 u.1 σ.2.2.1 σ.2.2.2.1.1 σ.2.2.2.1.2 sz hz
  obtain ⟨Bn, e⟩ := lo_i_undo σ.1 σ.2.1 u.1 lo_zB σ.2.2.1 σ.2.2.2.1.1 σ.2.2.2.1.2
  rw [e] at hM
  unfold lo_undo
  dsimp only
  clear e
  generalize X7_undo σ.1 σ.2.1 lo_zB σ.2.2.1 σ.2.2.2.1.1 σ.2.2.2.1.2 = x0 at hM ⊢
  exact lo_frI (wr := lt_St yI (Ad 1) σ.2.2.2.2.1.1 σ.2.2.2.2.1.2 ++ (lt_St yI (Ad 2) σ.2.2.2.2.2.1.1 σ.2.2.2.2.2.1.2 ++ (lt_Tx yC (Ad 4) σ.2.2.2.2.2.2.1 σ.2.2.2.2.2.2.2 ++ (lt_Pg yI (Ad 5) u.2.1 u.2.2.1 u.2.2.2.1 u.2.2.2.2)))) hM (lo_q0 _ _ _ _ _ _ _) (fun U q => q.1) ((Bn, u.2) : lo_U) rfl (lo_q0 _ _ _ _ _ _ _).symm

def lo_setSuction (σ : lo_T) (p0 : Int32) : Int32 × lo_T := let x := X7_setSuction σ.1 σ.2.1 lo_zB σ.2.2.1 σ.2.2.2.1.1 σ.2.2.2.1.2 p0; (x.1, (σ.1, x.2.1, x.2.2.2.1, (x.2.2.2.2.1, x.2.2.2.2.2), σ.2.2.2.2))
theorem lo_i_setSuction (hs z : Int32) (B B' : Nat → Nat → Nat) (Vh : Nat → lt_SV) (i0 : Nat → Int32) (a0 : Nat → Nat → Int32) (p0 : Int32) : ∃ Bn, X7_setSuction hs z B Vh i0 a0 p0 = ((X7_setSuction hs z B' Vh i0 a0 p0).1, (X7_setSuction hs z B' Vh i0 a0 p0).2.1, Bn, (X7_setSuction hs z B' Vh i0 a0 p0).2.2.2) := by
  unfold X7_setSuction
  try dsimp only
  repeat' split
  all_goals exact ⟨_, rfl⟩
set_option maxHeartbeats 4000000 in
set_option maxRecDepth 100000 in
theorem lo_c_setSuction (l : Launch) (D : va_G) (yI yC yO : ClassId) (h : Nat) (Ad : Nat → Nat → Nat) (σ : lo_T) (u : lo_U) (p0 : Int32) (sz : Nat) (hz : lt_hz σ.2.1) : Met l yX7_setSuction wsX7_setSuction ({ frames := 5, cells := 0, slots := 0, locals := 150 }) (va_Pc [.ref h, .int p0] (lo_M D yI yC yO (lo_O yI yC yO h Ad σ u) sz)) (lo_Q D (lo_setSuction σ p0).1 (lo_O yI yC yO h Ad (lo_setSuction σ p0).2) (va_A (lo_O yI yC yO h Ad σ u) sz)) 0 0 (va_A (lo_O yI yC yO h Ad σ u) sz) := by
  have hM := c_X7_setSuction l D yI yC yO h (Ad 0) (Ad 1) (Ad 2) (Ad 3) (Ad 4) (Ad 5) σ.1 σ.2.1 u.1 σ.2.2.1 σ.2.2.2.1.1 σ.2.2.2.1.2 p0 sz hz
  obtain ⟨Bn, e⟩ := lo_i_setSuction σ.1 σ.2.1 u.1 lo_zB σ.2.2.1 σ.2.2.2.1.1 σ.2.2.2.1.2 p0
  rw [e] at hM
  unfold lo_setSuction
  dsimp only
  clear e
  generalize X7_setSuction σ.1 σ.2.1 lo_zB σ.2.2.1 σ.2.2.2.1.1 σ.2.2.2.1.2 p0 = x0 at hM ⊢
  exact lo_frI (wr := lt_St yI (Ad 1) σ.2.2.2.2.1.1 σ.2.2.2.2.1.2 ++ (lt_St yI (Ad 2) σ.2.2.2.2.2.1.1 σ.2.2.2.2.2.1.2 ++ (lt_Tx yC (Ad 4) σ.2.2.2.2.2.2.1 σ.2.2.2.2.2.2.2 ++ (lt_Pg yI (Ad 5) u.2.1 u.2.2.1 u.2.2.2.1 u.2.2.2.2)))) hM (lo_q0 _ _ _ _ _ _ _) (fun U q => q.1) ((Bn, u.2) : lo_U) rfl (lo_q0 _ _ _ _ _ _ _).symm

def lo_throwAway (σ : lo_T) (p0 : Int32) : Int32 × lo_T := let x := X7_throwAway σ.1 σ.2.1 lo_zB σ.2.2.1 σ.2.2.2.1.1 σ.2.2.2.1.2 p0; (x.1, (σ.1, x.2.1, x.2.2.2.1, (x.2.2.2.2.1, x.2.2.2.2.2), σ.2.2.2.2))
theorem lo_i_throwAway (hs z : Int32) (B B' : Nat → Nat → Nat) (Vh : Nat → lt_SV) (i0 : Nat → Int32) (a0 : Nat → Nat → Int32) (p0 : Int32) : ∃ Bn, X7_throwAway hs z B Vh i0 a0 p0 = ((X7_throwAway hs z B' Vh i0 a0 p0).1, (X7_throwAway hs z B' Vh i0 a0 p0).2.1, Bn, (X7_throwAway hs z B' Vh i0 a0 p0).2.2.2) := by
  unfold X7_throwAway
  try dsimp only
  repeat' split
  all_goals exact ⟨_, rfl⟩
set_option maxHeartbeats 4000000 in
set_option maxRecDepth 100000 in
theorem lo_c_throwAway (l : Launch) (D : va_G) (yI yC yO : ClassId) (h : Nat) (Ad : Nat → Nat → Nat) (σ : lo_T) (u : lo_U) (p0 : Int32) (sz : Nat) (hz : lt_hz σ.2.1) : Met l yX7_throwAway wsX7_throwAway ({ frames := 5, cells := 0, slots := 0, locals := 150 }) (va_Pc [.ref h, .int p0] (lo_M D yI yC yO (lo_O yI yC yO h Ad σ u) sz)) (lo_Q D (lo_throwAway σ p0).1 (lo_O yI yC yO h Ad (lo_throwAway σ p0).2) (va_A (lo_O yI yC yO h Ad σ u) sz)) 0 0 (va_A (lo_O yI yC yO h Ad σ u) sz) := by
  have hM := c_X7_throwAway l D yI yC yO h (Ad 0) (Ad 1) (Ad 2) (Ad 3) (Ad 4) (Ad 5) σ.1 σ.2.1 u.1 σ.2.2.1 σ.2.2.2.1.1 σ.2.2.2.1.2 p0 sz hz
  obtain ⟨Bn, e⟩ := lo_i_throwAway σ.1 σ.2.1 u.1 lo_zB σ.2.2.1 σ.2.2.2.1.1 σ.2.2.2.1.2 p0
  rw [e] at hM
  unfold lo_throwAway
  dsimp only
  clear e
  generalize X7_throwAway σ.1 σ.2.1 lo_zB σ.2.2.1 σ.2.2.2.1.1 σ.2.2.2.1.2 p0 = x0 at hM ⊢
  exact lo_frI (wr := lt_St yI (Ad 1) σ.2.2.2.2.1.1 σ.2.2.2.2.1.2 ++ (lt_St yI (Ad 2) σ.2.2.2.2.2.1.1 σ.2.2.2.2.2.1.2 ++ (lt_Tx yC (Ad 4) σ.2.2.2.2.2.2.1 σ.2.2.2.2.2.2.2 ++ (lt_Pg yI (Ad 5) u.2.1 u.2.2.1 u.2.2.2.1 u.2.2.2.2)))) hM (lo_q0 _ _ _ _ _ _ _) (fun U q => q.1) ((Bn, u.2) : lo_U) rfl (lo_q0 _ _ _ _ _ _ _).symm

def lo_layBook (σ : lo_T) (p0 : Int32) (p1 : Int32) : Int32 × lo_T := let x := X7_layBook σ.1 σ.2.1 lo_zB σ.2.2.1 σ.2.2.2.1.1 σ.2.2.2.1.2 p0 p1; (x.1, (σ.1, x.2.1, x.2.2.2.1, (x.2.2.2.2.1, x.2.2.2.2.2), σ.2.2.2.2))
theorem lo_i_layBook (hs z : Int32) (B B' : Nat → Nat → Nat) (Vh : Nat → lt_SV) (i0 : Nat → Int32) (a0 : Nat → Nat → Int32) (p0 p1 : Int32) : ∃ Bn, X7_layBook hs z B Vh i0 a0 p0 p1 = ((X7_layBook hs z B' Vh i0 a0 p0 p1).1, (X7_layBook hs z B' Vh i0 a0 p0 p1).2.1, Bn, (X7_layBook hs z B' Vh i0 a0 p0 p1).2.2.2) := by
  unfold X7_layBook
  try dsimp only
  repeat' split
  all_goals exact ⟨_, rfl⟩
set_option maxHeartbeats 4000000 in
set_option maxRecDepth 100000 in
theorem lo_c_layBook (l : Launch) (D : va_G) (yI yC yO : ClassId) (h : Nat) (Ad : Nat → Nat → Nat) (σ : lo_T) (u : lo_U) (p0 : Int32) (p1 : Int32) (sz : Nat) (hz : lt_hz σ.2.1) : Met l yX7_layBook wsX7_layBook ({ frames := 5, cells := 0, slots := 0, locals := 150 }) (va_Pc [.ref h, .int p0, .int p1] (lo_M D yI yC yO (lo_O yI yC yO h Ad σ u) sz)) (lo_Q D (lo_layBook σ p0 p1).1 (lo_O yI yC yO h Ad (lo_layBook σ p0 p1).2) (va_A (lo_O yI yC yO h Ad σ u) sz)) 0 0 (va_A (lo_O yI yC yO h Ad σ u) sz) := by
  have hM := c_X7_layBook l D yI yC yO h (Ad 0) (Ad 1) (Ad 2) (Ad 3) (Ad 4) (Ad 5) σ.1 σ.2.1 u.1 σ.2.2.1 σ.2.2.2.1.1 σ.2.2.2.1.2 p0 p1 sz hz
  obtain ⟨Bn, e⟩ := lo_i_layBook σ.1 σ.2.1 u.1 lo_zB σ.2.2.1 σ.2.2.2.1.1 σ.2.2.2.1.2 p0 p1
  rw [e] at hM
  unfold lo_layBook
  dsimp only
  clear e
  generalize X7_layBook σ.1 σ.2.1 lo_zB σ.2.2.1 σ.2.2.2.1.1 σ.2.2.2.1.2 p0 p1 = x0 at hM ⊢
  exact lo_frI (wr := lt_St yI (Ad 1) σ.2.2.2.2.1.1 σ.2.2.2.2.1.2 ++ (lt_St yI (Ad 2) σ.2.2.2.2.2.1.1 σ.2.2.2.2.2.1.2 ++ (lt_Tx yC (Ad 4) σ.2.2.2.2.2.2.1 σ.2.2.2.2.2.2.2 ++ (lt_Pg yI (Ad 5) u.2.1 u.2.2.1 u.2.2.2.1 u.2.2.2.2)))) hM (lo_q0 _ _ _ _ _ _ _) (fun U q => q.1) ((Bn, u.2) : lo_U) rfl (lo_q0 _ _ _ _ _ _ _).symm

def lo_print (σ : lo_T) (p0 : Int32) (p1 : Int32) : Int32 × lo_T := let x := X7_print σ.1 σ.2.1 lo_zB σ.2.2.1 σ.2.2.2.1.1 σ.2.2.2.1.2 p0 p1; (x.1, (σ.1, x.2.1, x.2.2.2.1, (x.2.2.2.2.1, x.2.2.2.2.2), σ.2.2.2.2))
theorem lo_i_print (hs z : Int32) (B B' : Nat → Nat → Nat) (Vh : Nat → lt_SV) (i0 : Nat → Int32) (a0 : Nat → Nat → Int32) (p0 p1 : Int32) : ∃ Bn, X7_print hs z B Vh i0 a0 p0 p1 = ((X7_print hs z B' Vh i0 a0 p0 p1).1, (X7_print hs z B' Vh i0 a0 p0 p1).2.1, Bn, (X7_print hs z B' Vh i0 a0 p0 p1).2.2.2) := by
  unfold X7_print
  try dsimp only
  repeat' split
  all_goals exact ⟨_, rfl⟩
set_option maxHeartbeats 4000000 in
set_option maxRecDepth 100000 in
theorem lo_c_print (l : Launch) (D : va_G) (yI yC yO : ClassId) (h : Nat) (Ad : Nat → Nat → Nat) (σ : lo_T) (u : lo_U) (p0 : Int32) (p1 : Int32) (sz : Nat) (hz : lt_hz σ.2.1) : Met l yX7_print wsX7_print ({ frames := 5, cells := 0, slots := 0, locals := 150 }) (va_Pc [.ref h, .int p0, .int p1] (lo_M D yI yC yO (lo_O yI yC yO h Ad σ u) sz)) (lo_Q D (lo_print σ p0 p1).1 (lo_O yI yC yO h Ad (lo_print σ p0 p1).2) (va_A (lo_O yI yC yO h Ad σ u) sz)) 0 0 (va_A (lo_O yI yC yO h Ad σ u) sz) := by
  have hM := c_X7_print l D yI yC yO h (Ad 0) (Ad 1) (Ad 2) (Ad 3) (Ad 4) (Ad 5) σ.1 σ.2.1 u.1 σ.2.2.1 σ.2.2.2.1.1 σ.2.2.2.1.2 p0 p1 sz hz
  obtain ⟨Bn, e⟩ := lo_i_print σ.1 σ.2.1 u.1 lo_zB σ.2.2.1 σ.2.2.2.1.1 σ.2.2.2.1.2 p0 p1
  rw [e] at hM
  unfold lo_print
  dsimp only
  clear e
  generalize X7_print σ.1 σ.2.1 lo_zB σ.2.2.1 σ.2.2.2.1.1 σ.2.2.2.1.2 p0 p1 = x0 at hM ⊢
  exact lo_frI (wr := lt_St yI (Ad 1) σ.2.2.2.2.1.1 σ.2.2.2.2.1.2 ++ (lt_St yI (Ad 2) σ.2.2.2.2.2.1.1 σ.2.2.2.2.2.1.2 ++ (lt_Tx yC (Ad 4) σ.2.2.2.2.2.2.1 σ.2.2.2.2.2.2.2 ++ (lt_Pg yI (Ad 5) u.2.1 u.2.2.1 u.2.2.2.1 u.2.2.2.2)))) hM (lo_q0 _ _ _ _ _ _ _) (fun U q => q.1) ((Bn, u.2) : lo_U) rfl (lo_q0 _ _ _ _ _ _ _).symm

def lo_set (σ : lo_T) (p0 : Int32) (p1 : Int32) : Int32 × lo_T := let x := X7_set σ.1 σ.2.1 lo_zB σ.2.2.1 σ.2.2.2.1.1 σ.2.2.2.1.2 p0 p1; (x.1, (σ.1, x.2.1, x.2.2.2.1, (x.2.2.2.2.1, x.2.2.2.2.2), σ.2.2.2.2))
theorem lo_i_set (hs z : Int32) (B B' : Nat → Nat → Nat) (Vh : Nat → lt_SV) (i0 : Nat → Int32) (a0 : Nat → Nat → Int32) (p0 p1 : Int32) : ∃ Bn, X7_set hs z B Vh i0 a0 p0 p1 = ((X7_set hs z B' Vh i0 a0 p0 p1).1, (X7_set hs z B' Vh i0 a0 p0 p1).2.1, Bn, (X7_set hs z B' Vh i0 a0 p0 p1).2.2.2) := by
  unfold X7_set
  try dsimp only
  repeat' split
  all_goals exact ⟨_, rfl⟩
set_option maxHeartbeats 4000000 in
set_option maxRecDepth 100000 in
theorem lo_c_set (l : Launch) (D : va_G) (yI yC yO : ClassId) (h : Nat) (Ad : Nat → Nat → Nat) (σ : lo_T) (u : lo_U) (p0 : Int32) (p1 : Int32) (sz : Nat) (hz : lt_hz σ.2.1) : Met l yX7_set wsX7_set ({ frames := 5, cells := 0, slots := 0, locals := 150 }) (va_Pc [.ref h, .int p0, .int p1] (lo_M D yI yC yO (lo_O yI yC yO h Ad σ u) sz)) (lo_Q D (lo_set σ p0 p1).1 (lo_O yI yC yO h Ad (lo_set σ p0 p1).2) (va_A (lo_O yI yC yO h Ad σ u) sz)) 0 0 (va_A (lo_O yI yC yO h Ad σ u) sz) := by
  have hM := c_X7_set l D yI yC yO h (Ad 0) (Ad 1) (Ad 2) (Ad 3) (Ad 4) (Ad 5) σ.1 σ.2.1 u.1 σ.2.2.1 σ.2.2.2.1.1 σ.2.2.2.1.2 p0 p1 sz hz
  obtain ⟨Bn, e⟩ := lo_i_set σ.1 σ.2.1 u.1 lo_zB σ.2.2.1 σ.2.2.2.1.1 σ.2.2.2.1.2 p0 p1
  rw [e] at hM
  unfold lo_set
  dsimp only
  clear e
  generalize X7_set σ.1 σ.2.1 lo_zB σ.2.2.1 σ.2.2.2.1.1 σ.2.2.2.1.2 p0 p1 = x0 at hM ⊢
  exact lo_frI (wr := lt_St yI (Ad 1) σ.2.2.2.2.1.1 σ.2.2.2.2.1.2 ++ (lt_St yI (Ad 2) σ.2.2.2.2.2.1.1 σ.2.2.2.2.2.1.2 ++ (lt_Tx yC (Ad 4) σ.2.2.2.2.2.2.1 σ.2.2.2.2.2.2.2 ++ (lt_Pg yI (Ad 5) u.2.1 u.2.2.1 u.2.2.2.1 u.2.2.2.2)))) hM (lo_q0 _ _ _ _ _ _ _) (fun U q => ⟨q.1, q.2.2.2⟩) ((Bn, u.2) : lo_U) rfl (lo_q0 _ _ _ _ _ _ _).symm

def lo_restore (σ : lo_T) : Int32 × lo_T := let x := X7_restore σ.1 σ.2.1 lo_zB σ.2.2.1 σ.2.2.2.1.1 σ.2.2.2.1.2 σ.2.2.2.2.2.1.1 σ.2.2.2.2.2.1.2; (x.1, (σ.1, x.2.1, x.2.2.2.1, (x.2.2.2.2.1, x.2.2.2.2.2), σ.2.2.2.2))
theorem lo_i_restore (hs z : Int32) (B B' : Nat → Nat → Nat) (Vh : Nat → lt_SV) (i0 : Nat → Int32) (a0 : Nat → Nat → Int32) (i2 : Nat → Int32) (a2 : Nat → Nat → Int32) : ∃ Bn, X7_restore hs z B Vh i0 a0 i2 a2 = ((X7_restore hs z B' Vh i0 a0 i2 a2).1, (X7_restore hs z B' Vh i0 a0 i2 a2).2.1, Bn, (X7_restore hs z B' Vh i0 a0 i2 a2).2.2.2) := by
  unfold X7_restore
  try dsimp only
  repeat' split
  all_goals exact ⟨_, rfl⟩
set_option maxHeartbeats 4000000 in
set_option maxRecDepth 100000 in
theorem lo_c_restore (l : Launch) (D : va_G) (yI yC yO : ClassId) (h : Nat) (Ad : Nat → Nat → Nat) (σ : lo_T) (u : lo_U) (sz : Nat) (hz : lt_hz σ.2.1) : Met l yX7_restore wsX7_restore ({ frames := 5, cells := 0, slots := 0, locals := 150 }) (va_Pc [.ref h] (lo_M D yI yC yO (lo_O yI yC yO h Ad σ u) sz)) (lo_Q D (lo_restore σ).1 (lo_O yI yC yO h Ad (lo_restore σ).2) (va_A (lo_O yI yC yO h Ad σ u) sz)) 0 0 (va_A (lo_O yI yC yO h Ad σ u) sz) := by
  have hM := c_X7_restore l D yI yC yO h (Ad 0) (Ad 1) (Ad 2) (Ad 3) (Ad 4) (Ad 5) σ.1 σ.2.1 u.1 σ.2.2.1 σ.2.2.2.1.1 σ.2.2.2.1.2 σ.2.2.2.2.2.1.1 σ.2.2.2.2.2.1.2 sz hz
  obtain ⟨Bn, e⟩ := lo_i_restore σ.1 σ.2.1 u.1 lo_zB σ.2.2.1 σ.2.2.2.1.1 σ.2.2.2.1.2 σ.2.2.2.2.2.1.1 σ.2.2.2.2.2.1.2
  rw [e] at hM
  unfold lo_restore
  dsimp only
  clear e
  generalize X7_restore σ.1 σ.2.1 lo_zB σ.2.2.1 σ.2.2.2.1.1 σ.2.2.2.1.2 σ.2.2.2.2.2.1.1 σ.2.2.2.2.2.1.2 = x0 at hM ⊢
  exact lo_frI (wr := lt_St yI (Ad 1) σ.2.2.2.2.1.1 σ.2.2.2.2.1.2 ++ (lt_Tx yC (Ad 4) σ.2.2.2.2.2.2.1 σ.2.2.2.2.2.2.2 ++ (lt_Pg yI (Ad 5) u.2.1 u.2.2.1 u.2.2.2.1 u.2.2.2.2))) hM (lo_q1 _ _ _ _ _ _ _) (fun U q => q.1) ((Bn, u.2) : lo_U) rfl (lo_q1 _ _ _ _ _ _ _).symm

def lo_scan (σ : lo_T) (p0 : Int32) : Int32 × lo_T := let x := X7_scan σ.1 σ.2.1 lo_zB σ.2.2.1 σ.2.2.2.1.1 σ.2.2.2.1.2 σ.2.2.2.2.1.1 σ.2.2.2.2.1.2 p0; (x.1, (σ.1, x.2.1, x.2.2.2.1, (x.2.2.2.2.1, x.2.2.2.2.2.1), (x.2.2.2.2.2.2.1, x.2.2.2.2.2.2.2), σ.2.2.2.2.2))
theorem lo_i_scan (hs z : Int32) (B B' : Nat → Nat → Nat) (Vh : Nat → lt_SV) (i0 : Nat → Int32) (a0 : Nat → Nat → Int32) (i1 : Nat → Int32) (a1 : Nat → Nat → Int32) (p0 : Int32) : ∃ Bn, X7_scan hs z B Vh i0 a0 i1 a1 p0 = ((X7_scan hs z B' Vh i0 a0 i1 a1 p0).1, (X7_scan hs z B' Vh i0 a0 i1 a1 p0).2.1, Bn, (X7_scan hs z B' Vh i0 a0 i1 a1 p0).2.2.2) := by
  unfold X7_scan
  try dsimp only
  repeat' split
  all_goals exact ⟨_, rfl⟩
set_option maxHeartbeats 4000000 in
set_option maxRecDepth 100000 in
theorem lo_c_scan (l : Launch) (D : va_G) (yI yC yO : ClassId) (h : Nat) (Ad : Nat → Nat → Nat) (σ : lo_T) (u : lo_U) (p0 : Int32) (sz : Nat) (hz : lt_hz σ.2.1) : Met l yX7_scan wsX7_scan ({ frames := 6, cells := 0, slots := 0, locals := 180 }) (va_Pc [.ref h, .int p0] (lo_M D yI yC yO (lo_O yI yC yO h Ad σ u) sz)) (lo_Q D (lo_scan σ p0).1 (lo_O yI yC yO h Ad (lo_scan σ p0).2) (va_A (lo_O yI yC yO h Ad σ u) sz)) 0 0 (va_A (lo_O yI yC yO h Ad σ u) sz) := by
  have hM := c_X7_scan l D yI yC yO h (Ad 0) (Ad 1) (Ad 2) (Ad 3) (Ad 4) (Ad 5) σ.1 σ.2.1 u.1 σ.2.2.1 σ.2.2.2.1.1 σ.2.2.2.1.2 σ.2.2.2.2.1.1 σ.2.2.2.2.1.2 p0 sz hz
  obtain ⟨Bn, e⟩ := lo_i_scan σ.1 σ.2.1 u.1 lo_zB σ.2.2.1 σ.2.2.2.1.1 σ.2.2.2.1.2 σ.2.2.2.2.1.1 σ.2.2.2.2.1.2 p0
  rw [e] at hM
  unfold lo_scan
  dsimp only
  clear e
  generalize X7_scan σ.1 σ.2.1 lo_zB σ.2.2.1 σ.2.2.2.1.1 σ.2.2.2.1.2 σ.2.2.2.2.1.1 σ.2.2.2.2.1.2 p0 = x0 at hM ⊢
  exact lo_frI (wr := lt_St yI (Ad 2) σ.2.2.2.2.2.1.1 σ.2.2.2.2.2.1.2 ++ (lt_Tx yC (Ad 4) σ.2.2.2.2.2.2.1 σ.2.2.2.2.2.2.2 ++ (lt_Pg yI (Ad 5) u.2.1 u.2.2.1 u.2.2.2.1 u.2.2.2.2))) hM (lo_q2 _ _ _ _ _ _ _) (fun U q => q.1) ((Bn, u.2) : lo_U) rfl (lo_q2 _ _ _ _ _ _ _).symm

def lo_takeBook (σ : lo_T) : Int32 × lo_T := let x := X7_takeBook σ.1 σ.2.1 lo_zB σ.2.2.1 σ.2.2.2.1.1 σ.2.2.2.1.2 σ.2.2.2.2.1.1 σ.2.2.2.2.1.2 σ.2.2.2.2.2.2.1 σ.2.2.2.2.2.2.2; (x.1, (σ.1, x.2.1, x.2.2.2.1, (x.2.2.2.2.1, x.2.2.2.2.2.1), (x.2.2.2.2.2.2.1, x.2.2.2.2.2.2.2), σ.2.2.2.2.2))
theorem lo_i_takeBook (hs z : Int32) (B B' : Nat → Nat → Nat) (Vh : Nat → lt_SV) (i0 : Nat → Int32) (a0 : Nat → Nat → Int32) (i1 : Nat → Int32) (a1 : Nat → Nat → Int32) (len : Int32) (sg : Nat → Int32) : ∃ Bn, X7_takeBook hs z B Vh i0 a0 i1 a1 len sg = ((X7_takeBook hs z B' Vh i0 a0 i1 a1 len sg).1, (X7_takeBook hs z B' Vh i0 a0 i1 a1 len sg).2.1, Bn, (X7_takeBook hs z B' Vh i0 a0 i1 a1 len sg).2.2.2) := by
  unfold X7_takeBook
  try dsimp only
  repeat' split
  all_goals exact ⟨_, rfl⟩
set_option maxHeartbeats 4000000 in
set_option maxRecDepth 100000 in
theorem lo_c_takeBook (l : Launch) (D : va_G) (yI yC yO : ClassId) (h : Nat) (Ad : Nat → Nat → Nat) (σ : lo_T) (u : lo_U) (sz : Nat) (hz : lt_hz σ.2.1) : Met l yX7_takeBook wsX7_takeBook ({ frames := 5, cells := 0, slots := 0, locals := 150 }) (va_Pc [.ref h] (lo_M D yI yC yO (lo_O yI yC yO h Ad σ u) sz)) (lo_Q D (lo_takeBook σ).1 (lo_O yI yC yO h Ad (lo_takeBook σ).2) (va_A (lo_O yI yC yO h Ad σ u) sz)) 0 0 (va_A (lo_O yI yC yO h Ad σ u) sz) := by
  have hM := c_X7_takeBook l D yI yC yO h (Ad 0) (Ad 1) (Ad 2) (Ad 3) (Ad 4) (Ad 5) σ.1 σ.2.1 u.1 σ.2.2.1 σ.2.2.2.1.1 σ.2.2.2.1.2 σ.2.2.2.2.1.1 σ.2.2.2.2.1.2 σ.2.2.2.2.2.2.1 σ.2.2.2.2.2.2.2 sz hz
  obtain ⟨Bn, e⟩ := lo_i_takeBook σ.1 σ.2.1 u.1 lo_zB σ.2.2.1 σ.2.2.2.1.1 σ.2.2.2.1.2 σ.2.2.2.2.1.1 σ.2.2.2.2.1.2 σ.2.2.2.2.2.2.1 σ.2.2.2.2.2.2.2
  rw [e] at hM
  unfold lo_takeBook
  dsimp only
  clear e
  generalize X7_takeBook σ.1 σ.2.1 lo_zB σ.2.2.1 σ.2.2.2.1.1 σ.2.2.2.1.2 σ.2.2.2.2.1.1 σ.2.2.2.2.1.2 σ.2.2.2.2.2.2.1 σ.2.2.2.2.2.2.2 = x0 at hM ⊢
  exact lo_frI (wr := lt_St yI (Ad 2) σ.2.2.2.2.2.1.1 σ.2.2.2.2.2.1.2 ++ (lt_Pg yI (Ad 5) u.2.1 u.2.2.1 u.2.2.2.1 u.2.2.2.2)) hM (lo_q3 _ _ _ _ _ _ _) (fun U q => q.1) ((Bn, u.2) : lo_U) rfl (lo_q3 _ _ _ _ _ _ _).symm

def lo_keep (σ : lo_T) : Int32 × lo_T := let x := X7_keep σ.1 σ.2.2.2.1.1 σ.2.2.2.1.2 σ.2.2.2.2.2.1.1 σ.2.2.2.2.2.1.2; (x.1, (x.2.1, σ.2.1, σ.2.2.1, σ.2.2.2.1, σ.2.2.2.2.1, (x.2.2.1, x.2.2.2), σ.2.2.2.2.2.2))
set_option maxHeartbeats 4000000 in
set_option maxRecDepth 100000 in
theorem lo_c_keep (l : Launch) (D : va_G) (yI yC yO : ClassId) (h : Nat) (Ad : Nat → Nat → Nat) (σ : lo_T) (u : lo_U) (sz : Nat) : Met l yX7_keep wsX7_keep ({ frames := 4, cells := 0, slots := 0, locals := 120 }) (va_Pc [.ref h] (lo_M D yI yC yO (lo_O yI yC yO h Ad σ u) sz)) (lo_Q D (lo_keep σ).1 (lo_O yI yC yO h Ad (lo_keep σ).2) (va_A (lo_O yI yC yO h Ad σ u) sz)) 0 0 (va_A (lo_O yI yC yO h Ad σ u) sz) := by
  have hM := c_X7_keep l D yI yC yO h (Ad 0) (Ad 1) (Ad 2) (Ad 3) (Ad 4) (Ad 5) σ.1 σ.2.2.2.1.1 σ.2.2.2.1.2 σ.2.2.2.2.2.1.1 σ.2.2.2.2.2.1.2 sz
  unfold lo_keep
  dsimp only
  generalize X7_keep σ.1 σ.2.2.2.1.1 σ.2.2.2.1.2 σ.2.2.2.2.2.1.1 σ.2.2.2.2.2.1.2 = x0 at hM ⊢
  exact lo_frI (wr := lt_Hi yI yO (Ad 3) σ.2.1 u.1 σ.2.2.1 ++ (lt_St yI (Ad 1) σ.2.2.2.2.1.1 σ.2.2.2.2.1.2 ++ (lt_Tx yC (Ad 4) σ.2.2.2.2.2.2.1 σ.2.2.2.2.2.2.2 ++ (lt_Pg yI (Ad 5) u.2.1 u.2.2.1 u.2.2.2.1 u.2.2.2.2)))) hM (lo_q4 _ _ _ _ _ _ _) (fun U q => q.1) u rfl (lo_q4 _ _ _ _ _ _ _).symm

def lo_type (σ : lo_T) (p0 : Int32) : Int32 × lo_T := let x := X7_type σ.1 σ.2.2.2.2.2.2.1 σ.2.2.2.2.2.2.2 p0; (x.1, (σ.1, σ.2.1, σ.2.2.1, σ.2.2.2.1, σ.2.2.2.2.1, σ.2.2.2.2.2.1, x.2.1, x.2.2))
set_option maxHeartbeats 4000000 in
set_option maxRecDepth 100000 in
theorem lo_c_type (l : Launch) (D : va_G) (yI yC yO : ClassId) (h : Nat) (Ad : Nat → Nat → Nat) (σ : lo_T) (u : lo_U) (p0 : Int32) (sz : Nat) : Met l yX7_type wsX7_type ({ frames := 1, cells := 0, slots := 0, locals := 30 }) (va_Pc [.ref h, .int p0] (lo_M D yI yC yO (lo_O yI yC yO h Ad σ u) sz)) (lo_Q D (lo_type σ p0).1 (lo_O yI yC yO h Ad (lo_type σ p0).2) (va_A (lo_O yI yC yO h Ad σ u) sz)) 0 0 (va_A (lo_O yI yC yO h Ad σ u) sz) := by
  have hM := c_X7_type l D yI yC yO h (Ad 0) (Ad 1) (Ad 2) (Ad 3) (Ad 4) (Ad 5) σ.1 σ.2.2.2.2.2.2.1 σ.2.2.2.2.2.2.2 p0 sz
  unfold lo_type
  dsimp only
  generalize X7_type σ.1 σ.2.2.2.2.2.2.1 σ.2.2.2.2.2.2.2 p0 = x0 at hM ⊢
  exact lo_frI (wr := lt_Hi yI yO (Ad 3) σ.2.1 u.1 σ.2.2.1 ++ (lt_St yI (Ad 0) σ.2.2.2.1.1 σ.2.2.2.1.2 ++ (lt_St yI (Ad 1) σ.2.2.2.2.1.1 σ.2.2.2.2.1.2 ++ (lt_St yI (Ad 2) σ.2.2.2.2.2.1.1 σ.2.2.2.2.2.1.2 ++ (lt_Pg yI (Ad 5) u.2.1 u.2.2.1 u.2.2.2.1 u.2.2.2.2))))) hM (lo_q5 _ _ _ _ _ _ _) (fun U q => q.1) u rfl (lo_q5 _ _ _ _ _ _ _).symm

def lo_clearText (σ : lo_T) : Int32 × lo_T := let x := X7_clearText σ.1 σ.2.2.2.2.2.2.1 σ.2.2.2.2.2.2.2; (x.1, (σ.1, σ.2.1, σ.2.2.1, σ.2.2.2.1, σ.2.2.2.2.1, σ.2.2.2.2.2.1, x.2.1, x.2.2))
set_option maxHeartbeats 4000000 in
set_option maxRecDepth 100000 in
theorem lo_c_clearText (l : Launch) (D : va_G) (yI yC yO : ClassId) (h : Nat) (Ad : Nat → Nat → Nat) (σ : lo_T) (u : lo_U) (sz : Nat) : Met l yX7_clearText wsX7_clearText ({ frames := 0, cells := 0, slots := 0, locals := 0 }) (va_Pc [.ref h] (lo_M D yI yC yO (lo_O yI yC yO h Ad σ u) sz)) (lo_Q D (lo_clearText σ).1 (lo_O yI yC yO h Ad (lo_clearText σ).2) (va_A (lo_O yI yC yO h Ad σ u) sz)) 0 0 (va_A (lo_O yI yC yO h Ad σ u) sz) := by
  have hM := c_X7_clearText l D yI yC yO h (Ad 0) (Ad 1) (Ad 2) (Ad 3) (Ad 4) (Ad 5) σ.1 σ.2.2.2.2.2.2.1 σ.2.2.2.2.2.2.2 sz
  unfold lo_clearText
  dsimp only
  generalize X7_clearText σ.1 σ.2.2.2.2.2.2.1 σ.2.2.2.2.2.2.2 = x0 at hM ⊢
  exact lo_frI (wr := lt_Hi yI yO (Ad 3) σ.2.1 u.1 σ.2.2.1 ++ (lt_St yI (Ad 0) σ.2.2.2.1.1 σ.2.2.2.1.2 ++ (lt_St yI (Ad 1) σ.2.2.2.2.1.1 σ.2.2.2.2.1.2 ++ (lt_St yI (Ad 2) σ.2.2.2.2.2.1.1 σ.2.2.2.2.2.1.2 ++ (lt_Pg yI (Ad 5) u.2.1 u.2.2.1 u.2.2.2.1 u.2.2.2.2))))) hM (lo_q5 _ _ _ _ _ _ _) (fun U q => q.1) u rfl (lo_q5 _ _ _ _ _ _ _).symm

def lo_leaf (σ : lo_T) (p0 : Int32) (p1 : Int32) : Int32 × lo_T := (X7_leaf σ.1 σ.2.2.2.1.1 σ.2.2.2.1.2 p0 p1, σ)
set_option maxHeartbeats 4000000 in
set_option maxRecDepth 100000 in
theorem lo_c_leaf (l : Launch) (D : va_G) (yI yC yO : ClassId) (h : Nat) (Ad : Nat → Nat → Nat) (σ : lo_T) (u : lo_U) (p0 : Int32) (p1 : Int32) (sz : Nat) : Met l yX7_leaf wsX7_leaf ({ frames := 2, cells := 0, slots := 0, locals := 60 }) (va_Pc [.ref h, .int p0, .int p1] (lo_M D yI yC yO (lo_O yI yC yO h Ad σ u) sz)) (lo_Q D (lo_leaf σ p0 p1).1 (lo_O yI yC yO h Ad (lo_leaf σ p0 p1).2) (va_A (lo_O yI yC yO h Ad σ u) sz)) 0 0 (va_A (lo_O yI yC yO h Ad σ u) sz) := by
  exact lo_frR (wr := lt_Hi yI yO (Ad 3) σ.2.1 u.1 σ.2.2.1 ++ (lt_St yI (Ad 1) σ.2.2.2.2.1.1 σ.2.2.2.2.1.2 ++ (lt_St yI (Ad 2) σ.2.2.2.2.2.1.1 σ.2.2.2.2.2.1.2 ++ (lt_Tx yC (Ad 4) σ.2.2.2.2.2.2.1 σ.2.2.2.2.2.2.2 ++ (lt_Pg yI (Ad 5) u.2.1 u.2.2.1 u.2.2.2.1 u.2.2.2.2))))) (c_X7_leaf l D yI yC yO h (Ad 0) (Ad 1) (Ad 2) (Ad 3) (Ad 4) (Ad 5) σ.1 σ.2.2.2.1.1 σ.2.2.2.1.2 p0 p1) (lo_q6 _ _ _ _ _ _ _) u rfl

def lo_open (σ : lo_T) (p0 : Int32) : Int32 × lo_T := (X7_open σ.1 σ.2.2.2.1.1 σ.2.2.2.1.2 p0, σ)
set_option maxHeartbeats 4000000 in
set_option maxRecDepth 100000 in
theorem lo_c_open (l : Launch) (D : va_G) (yI yC yO : ClassId) (h : Nat) (Ad : Nat → Nat → Nat) (σ : lo_T) (u : lo_U) (p0 : Int32) (sz : Nat) : Met l yX7_open wsX7_open ({ frames := 2, cells := 0, slots := 0, locals := 60 }) (va_Pc [.ref h, .int p0] (lo_M D yI yC yO (lo_O yI yC yO h Ad σ u) sz)) (lo_Q D (lo_open σ p0).1 (lo_O yI yC yO h Ad (lo_open σ p0).2) (va_A (lo_O yI yC yO h Ad σ u) sz)) 0 0 (va_A (lo_O yI yC yO h Ad σ u) sz) := by
  exact lo_frR (wr := lt_Hi yI yO (Ad 3) σ.2.1 u.1 σ.2.2.1 ++ (lt_St yI (Ad 1) σ.2.2.2.2.1.1 σ.2.2.2.2.1.2 ++ (lt_St yI (Ad 2) σ.2.2.2.2.2.1.1 σ.2.2.2.2.2.1.2 ++ (lt_Tx yC (Ad 4) σ.2.2.2.2.2.2.1 σ.2.2.2.2.2.2.2 ++ (lt_Pg yI (Ad 5) u.2.1 u.2.2.1 u.2.2.2.1 u.2.2.2.2))))) (c_X7_open l D yI yC yO h (Ad 0) (Ad 1) (Ad 2) (Ad 3) (Ad 4) (Ad 5) σ.1 σ.2.2.2.1.1 σ.2.2.2.1.2 p0) (lo_q6 _ _ _ _ _ _ _) u rfl

def lo_would (σ : lo_T) (p0 : Int32) : Int32 × lo_T := (X7_would σ.1 σ.2.2.2.1.1 σ.2.2.2.1.2 p0, σ)
set_option maxHeartbeats 4000000 in
set_option maxRecDepth 100000 in
theorem lo_c_would (l : Launch) (D : va_G) (yI yC yO : ClassId) (h : Nat) (Ad : Nat → Nat → Nat) (σ : lo_T) (u : lo_U) (p0 : Int32) (sz : Nat) : Met l yX7_would wsX7_would ({ frames := 3, cells := 0, slots := 0, locals := 90 }) (va_Pc [.ref h, .int p0] (lo_M D yI yC yO (lo_O yI yC yO h Ad σ u) sz)) (lo_Q D (lo_would σ p0).1 (lo_O yI yC yO h Ad (lo_would σ p0).2) (va_A (lo_O yI yC yO h Ad σ u) sz)) 0 0 (va_A (lo_O yI yC yO h Ad σ u) sz) := by
  exact lo_frR (wr := lt_Hi yI yO (Ad 3) σ.2.1 u.1 σ.2.2.1 ++ (lt_St yI (Ad 1) σ.2.2.2.2.1.1 σ.2.2.2.2.1.2 ++ (lt_St yI (Ad 2) σ.2.2.2.2.2.1.1 σ.2.2.2.2.2.1.2 ++ (lt_Tx yC (Ad 4) σ.2.2.2.2.2.2.1 σ.2.2.2.2.2.2.2 ++ (lt_Pg yI (Ad 5) u.2.1 u.2.2.1 u.2.2.2.1 u.2.2.2.2))))) (c_X7_would l D yI yC yO h (Ad 0) (Ad 1) (Ad 2) (Ad 3) (Ad 4) (Ad 5) σ.1 σ.2.2.2.1.1 σ.2.2.2.1.2 p0) (lo_q6 _ _ _ _ _ _ _) u rfl

def lo_best (σ : lo_T) : Int32 × lo_T := (X7_best σ.1 σ.2.2.2.1.1 σ.2.2.2.1.2, σ)
set_option maxHeartbeats 4000000 in
set_option maxRecDepth 100000 in
theorem lo_c_best (l : Launch) (D : va_G) (yI yC yO : ClassId) (h : Nat) (Ad : Nat → Nat → Nat) (σ : lo_T) (u : lo_U) (sz : Nat) : Met l yX7_best wsX7_best ({ frames := 3, cells := 0, slots := 0, locals := 90 }) (va_Pc [.ref h] (lo_M D yI yC yO (lo_O yI yC yO h Ad σ u) sz)) (lo_Q D (lo_best σ).1 (lo_O yI yC yO h Ad (lo_best σ).2) (va_A (lo_O yI yC yO h Ad σ u) sz)) 0 0 (va_A (lo_O yI yC yO h Ad σ u) sz) := by
  exact lo_frR (wr := lt_Hi yI yO (Ad 3) σ.2.1 u.1 σ.2.2.1 ++ (lt_St yI (Ad 1) σ.2.2.2.2.1.1 σ.2.2.2.2.1.2 ++ (lt_St yI (Ad 2) σ.2.2.2.2.2.1.1 σ.2.2.2.2.2.1.2 ++ (lt_Tx yC (Ad 4) σ.2.2.2.2.2.2.1 σ.2.2.2.2.2.2.2 ++ (lt_Pg yI (Ad 5) u.2.1 u.2.2.1 u.2.2.2.1 u.2.2.2.2))))) (c_X7_best l D yI yC yO h (Ad 0) (Ad 1) (Ad 2) (Ad 3) (Ad 4) (Ad 5) σ.1 σ.2.2.2.1.1 σ.2.2.2.1.2) (lo_q6 _ _ _ _ _ _ _) u rfl

def lo_lacking (σ : lo_T) (p0 : Int32) : Int32 × lo_T := ((X7_lacking σ.1 σ.2.2.2.1.1 σ.2.2.2.1.2 0 0 lo_zF lo_zF p0).1, σ)
set_option maxHeartbeats 4000000 in
set_option maxRecDepth 100000 in
theorem lo_c_lacking (l : Launch) (D : va_G) (yI yC yO : ClassId) (h : Nat) (Ad : Nat → Nat → Nat) (σ : lo_T) (u : lo_U) (p0 : Int32) (sz : Nat) : Met l yX7_lacking wsX7_lacking ({ frames := 5, cells := 0, slots := 0, locals := 150 }) (va_Pc [.ref h, .int p0] (lo_M D yI yC yO (lo_O yI yC yO h Ad σ u) sz)) (lo_Q D (lo_lacking σ p0).1 (lo_O yI yC yO h Ad (lo_lacking σ p0).2) (va_A (lo_O yI yC yO h Ad σ u) sz)) 0 0 (va_A (lo_O yI yC yO h Ad σ u) sz) := by
  have hM := c_X7_lacking l D yI yC yO h (Ad 0) (Ad 1) (Ad 2) (Ad 3) (Ad 4) (Ad 5) σ.1 σ.2.2.2.1.1 σ.2.2.2.1.2 u.2.1 u.2.2.1 u.2.2.2.1 u.2.2.2.2 p0 sz
  have e := lo_j_lacking σ.1 σ.2.2.2.1.1 σ.2.2.2.1.2 u.2.1 u.2.2.1 u.2.2.2.1 u.2.2.2.2 0 0 lo_zF lo_zF p0
  unfold lo_lacking
  dsimp only
  generalize (X7_lacking σ.1 σ.2.2.2.1.1 σ.2.2.2.1.2 0 0 lo_zF lo_zF p0).1 = r0 at e ⊢
  generalize X7_lacking σ.1 σ.2.2.2.1.1 σ.2.2.2.1.2 u.2.1 u.2.2.1 u.2.2.2.1 u.2.2.2.2 p0 = x0 at hM e ⊢
  exact lo_frI (wr := lt_Hi yI yO (Ad 3) σ.2.1 u.1 σ.2.2.1 ++ (lt_St yI (Ad 1) σ.2.2.2.2.1.1 σ.2.2.2.2.1.2 ++ (lt_St yI (Ad 2) σ.2.2.2.2.2.1.1 σ.2.2.2.2.2.1.2 ++ (lt_Tx yC (Ad 4) σ.2.2.2.2.2.2.1 σ.2.2.2.2.2.2.2)))) hM (lo_q7 _ _ _ _ _ _ _) (fun U q => q.1) ((u.1, x0.2.1, x0.2.2.1, x0.2.2.2.1, x0.2.2.2.2) : lo_U) e (lo_q7 _ _ _ _ _ _ _).symm

def lo_page (σ : lo_T) (p0 : Int32) (p1 : Int32) : Int32 × lo_T := ((X7_page σ.1 σ.2.2.2.1.1 σ.2.2.2.1.2 0 0 lo_zF lo_zF p0 p1).1, σ)
set_option maxHeartbeats 4000000 in
set_option maxRecDepth 100000 in
theorem lo_c_page (l : Launch) (D : va_G) (yI yC yO : ClassId) (h : Nat) (Ad : Nat → Nat → Nat) (σ : lo_T) (u : lo_U) (p0 : Int32) (p1 : Int32) (sz : Nat) : Met l yX7_page wsX7_page ({ frames := 5, cells := 0, slots := 0, locals := 150 }) (va_Pc [.ref h, .int p0, .int p1] (lo_M D yI yC yO (lo_O yI yC yO h Ad σ u) sz)) (lo_Q D (lo_page σ p0 p1).1 (lo_O yI yC yO h Ad (lo_page σ p0 p1).2) (va_A (lo_O yI yC yO h Ad σ u) sz)) 0 0 (va_A (lo_O yI yC yO h Ad σ u) sz) := by
  have hM := c_X7_page l D yI yC yO h (Ad 0) (Ad 1) (Ad 2) (Ad 3) (Ad 4) (Ad 5) σ.1 σ.2.2.2.1.1 σ.2.2.2.1.2 u.2.1 u.2.2.1 u.2.2.2.1 u.2.2.2.2 p0 p1 sz
  have e := lo_j_page σ.1 σ.2.2.2.1.1 σ.2.2.2.1.2 u.2.1 u.2.2.1 u.2.2.2.1 u.2.2.2.2 0 0 lo_zF lo_zF p0 p1
  unfold lo_page
  dsimp only
  generalize (X7_page σ.1 σ.2.2.2.1.1 σ.2.2.2.1.2 0 0 lo_zF lo_zF p0 p1).1 = r0 at e ⊢
  generalize X7_page σ.1 σ.2.2.2.1.1 σ.2.2.2.1.2 u.2.1 u.2.2.1 u.2.2.2.1 u.2.2.2.2 p0 p1 = x0 at hM e ⊢
  exact lo_frI (wr := lt_Hi yI yO (Ad 3) σ.2.1 u.1 σ.2.2.1 ++ (lt_St yI (Ad 1) σ.2.2.2.2.1.1 σ.2.2.2.2.1.2 ++ (lt_St yI (Ad 2) σ.2.2.2.2.2.1.1 σ.2.2.2.2.2.1.2 ++ (lt_Tx yC (Ad 4) σ.2.2.2.2.2.2.1 σ.2.2.2.2.2.2.2)))) hM (lo_q7 _ _ _ _ _ _ _) (fun U q => q.1) ((u.1, x0.2.1, x0.2.2.1, x0.2.2.2.1, x0.2.2.2.2) : lo_U) e (lo_q7 _ _ _ _ _ _ _).symm

def lo_picture (σ : lo_T) (p0 : Int32) (p1 : Int32) : Int32 × lo_T := ((X7_picture σ.1 σ.2.2.2.1.1 σ.2.2.2.1.2 0 0 lo_zF lo_zF p0 p1).1, σ)
set_option maxHeartbeats 4000000 in
set_option maxRecDepth 100000 in
theorem lo_c_picture (l : Launch) (D : va_G) (yI yC yO : ClassId) (h : Nat) (Ad : Nat → Nat → Nat) (σ : lo_T) (u : lo_U) (p0 : Int32) (p1 : Int32) (sz : Nat) : Met l yX7_picture wsX7_picture ({ frames := 5, cells := 0, slots := 0, locals := 150 }) (va_Pc [.ref h, .int p0, .int p1] (lo_M D yI yC yO (lo_O yI yC yO h Ad σ u) sz)) (lo_Q D (lo_picture σ p0 p1).1 (lo_O yI yC yO h Ad (lo_picture σ p0 p1).2) (va_A (lo_O yI yC yO h Ad σ u) sz)) 0 0 (va_A (lo_O yI yC yO h Ad σ u) sz) := by
  have hM := c_X7_picture l D yI yC yO h (Ad 0) (Ad 1) (Ad 2) (Ad 3) (Ad 4) (Ad 5) σ.1 σ.2.2.2.1.1 σ.2.2.2.1.2 u.2.1 u.2.2.1 u.2.2.2.1 u.2.2.2.2 p0 p1 sz
  have e := lo_j_picture σ.1 σ.2.2.2.1.1 σ.2.2.2.1.2 u.2.1 u.2.2.1 u.2.2.2.1 u.2.2.2.2 0 0 lo_zF lo_zF p0 p1
  unfold lo_picture
  dsimp only
  generalize (X7_picture σ.1 σ.2.2.2.1.1 σ.2.2.2.1.2 0 0 lo_zF lo_zF p0 p1).1 = r0 at e ⊢
  generalize X7_picture σ.1 σ.2.2.2.1.1 σ.2.2.2.1.2 u.2.1 u.2.2.1 u.2.2.2.1 u.2.2.2.2 p0 p1 = x0 at hM e ⊢
  exact lo_frI (wr := lt_Hi yI yO (Ad 3) σ.2.1 u.1 σ.2.2.1 ++ (lt_St yI (Ad 1) σ.2.2.2.2.1.1 σ.2.2.2.2.1.2 ++ (lt_St yI (Ad 2) σ.2.2.2.2.2.1.1 σ.2.2.2.2.2.1.2 ++ (lt_Tx yC (Ad 4) σ.2.2.2.2.2.2.1 σ.2.2.2.2.2.2.2)))) hM (lo_q7 _ _ _ _ _ _ _) (fun U q => q.1) ((u.1, x0.2.1, x0.2.2.1, x0.2.2.2.1, x0.2.2.2.2) : lo_U) e (lo_q7 _ _ _ _ _ _ _).symm

def lo_count (σ : lo_T) (p0 : Int32) : Int32 × lo_T := ((X7_count σ.1 σ.2.1 lo_zB σ.2.2.1 σ.2.2.2.1.1 σ.2.2.2.1.2 σ.2.2.2.2.2.2.1 σ.2.2.2.2.2.2.2 0 0 lo_zF lo_zF p0).1, σ)
set_option maxHeartbeats 4000000 in
set_option maxRecDepth 100000 in
theorem lo_c_count (l : Launch) (D : va_G) (yI yC yO : ClassId) (h : Nat) (Ad : Nat → Nat → Nat) (σ : lo_T) (u : lo_U) (p0 : Int32) (sz : Nat) : Met l yX7_count wsX7_count ({ frames := 6, cells := 0, slots := 0, locals := 180 }) (va_Pc [.ref h, .int p0] (lo_M D yI yC yO (lo_O yI yC yO h Ad σ u) sz)) (lo_Q D (lo_count σ p0).1 (lo_O yI yC yO h Ad (lo_count σ p0).2) (va_A (lo_O yI yC yO h Ad σ u) sz)) 0 0 (va_A (lo_O yI yC yO h Ad σ u) sz) := by
  have hM := c_X7_count l D yI yC yO h (Ad 0) (Ad 1) (Ad 2) (Ad 3) (Ad 4) (Ad 5) σ.1 σ.2.1 u.1 σ.2.2.1 σ.2.2.2.1.1 σ.2.2.2.1.2 σ.2.2.2.2.2.2.1 σ.2.2.2.2.2.2.2 u.2.1 u.2.2.1 u.2.2.2.1 u.2.2.2.2 p0 sz
  have e := lo_j_count σ.1 σ.2.1 u.1 σ.2.2.1 σ.2.2.2.1.1 σ.2.2.2.1.2 σ.2.2.2.2.2.2.1 σ.2.2.2.2.2.2.2 lo_zB u.2.1 u.2.2.1 u.2.2.2.1 u.2.2.2.2 0 0 lo_zF lo_zF p0
  unfold lo_count
  dsimp only
  generalize (X7_count σ.1 σ.2.1 lo_zB σ.2.2.1 σ.2.2.2.1.1 σ.2.2.2.1.2 σ.2.2.2.2.2.2.1 σ.2.2.2.2.2.2.2 0 0 lo_zF lo_zF p0).1 = r0 at e ⊢
  generalize X7_count σ.1 σ.2.1 u.1 σ.2.2.1 σ.2.2.2.1.1 σ.2.2.2.1.2 σ.2.2.2.2.2.2.1 σ.2.2.2.2.2.2.2 u.2.1 u.2.2.1 u.2.2.2.1 u.2.2.2.2 p0 = x0 at hM e ⊢
  exact lo_frI (wr := lt_St yI (Ad 1) σ.2.2.2.2.1.1 σ.2.2.2.2.1.2 ++ (lt_St yI (Ad 2) σ.2.2.2.2.2.1.1 σ.2.2.2.2.2.1.2)) hM (lo_q8 _ _ _ _ _ _ _) (fun U q => q.1) ((u.1, x0.2.1, x0.2.2.1, x0.2.2.2.1, x0.2.2.2.2) : lo_U) e (lo_q8 _ _ _ _ _ _ _).symm

