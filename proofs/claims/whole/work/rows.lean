section
-- ===== PART A: goes FIRST, ahead of the names: the tables' words, and 'selects' of the private methods out of them =====
/-- a private method of a class that the tables say can be made, by its rows of tables_1 -/
def lw_okq (q : MethodName × Nat) : Prop := (q.1.cls ≠ "java/lang/invoke/MethodHandle" ∧ q.1.cls ≠ "java/lang/invoke/VarHandle") ∧ Cond.instantiable q.1.cls q.2 ∈ tables_1 ∧ Cond.privateMethod q.1 ∈ tables_1 ∧ Cond.instanceMethod q.1 ∈ tables_1
theorem lw_p0 : lw_okq (⟨"LeafTurner$BookText", "isDigit", "(I)Z"⟩, 2) := ⟨⟨by decide +kernel, by decide +kernel⟩, List.mem_of_getElem? (i := 174) (by decide +kernel), List.mem_of_getElem? (i := 242) (by decide +kernel), List.mem_of_getElem? (i := 243) (by decide +kernel)⟩
theorem lw_p1 : lw_okq (⟨"LeafTurner$BookText", "has", "(I)Z"⟩, 2) := ⟨⟨by decide +kernel, by decide +kernel⟩, List.mem_of_getElem? (i := 174) (by decide +kernel), List.mem_of_getElem? (i := 246) (by decide +kernel), List.mem_of_getElem? (i := 247) (by decide +kernel)⟩
theorem lw_p2 : lw_okq (⟨"LeafTurner$BookText", "digit", "(I)I"⟩, 2) := ⟨⟨by decide +kernel, by decide +kernel⟩, List.mem_of_getElem? (i := 174) (by decide +kernel), List.mem_of_getElem? (i := 250) (by decide +kernel), List.mem_of_getElem? (i := 251) (by decide +kernel)⟩
theorem lw_p3 : lw_okq (⟨"LeafTurner$BookText", "is", "(IC)Z"⟩, 2) := ⟨⟨by decide +kernel, by decide +kernel⟩, List.mem_of_getElem? (i := 174) (by decide +kernel), List.mem_of_getElem? (i := 254) (by decide +kernel), List.mem_of_getElem? (i := 255) (by decide +kernel)⟩
theorem lw_p4 : lw_okq (⟨"LeafTurner$BookText", "readMark", "(ILLeafTurner$Book;)I"⟩, 2) := ⟨⟨by decide +kernel, by decide +kernel⟩, List.mem_of_getElem? (i := 174) (by decide +kernel), List.mem_of_getElem? (i := 263) (by decide +kernel), List.mem_of_getElem? (i := 264) (by decide +kernel)⟩
theorem lw_p5 : lw_okq (⟨"LeafTurner$History", "dropOldest", "()V"⟩, 2) := ⟨⟨by decide +kernel, by decide +kernel⟩, List.mem_of_getElem? (i := 157) (by decide +kernel), List.mem_of_getElem? (i := 283) (by decide +kernel), List.mem_of_getElem? (i := 284) (by decide +kernel)⟩
theorem lw_p6 : lw_okq (⟨"LeafTurner$State", "learnFrom", "(I)V"⟩, 10) := ⟨⟨by decide +kernel, by decide +kernel⟩, List.mem_of_getElem? (i := 22) (by decide +kernel), List.mem_of_getElem? (i := 356) (by decide +kernel), List.mem_of_getElem? (i := 357) (by decide +kernel)⟩
theorem lw_p7 : lw_okq (⟨"LeafTurner$State", "takePicture", "(I)V"⟩, 10) := ⟨⟨by decide +kernel, by decide +kernel⟩, List.mem_of_getElem? (i := 22) (by decide +kernel), List.mem_of_getElem? (i := 398) (by decide +kernel), List.mem_of_getElem? (i := 399) (by decide +kernel)⟩
theorem lw_p8 : lw_okq (⟨"LeafTurner$PageSet", "guessOf", "(IILLeafTurner$State;)I"⟩, 4) := ⟨⟨by decide +kernel, by decide +kernel⟩, List.mem_of_getElem? (i := 189) (by decide +kernel), List.mem_of_getElem? (i := 506) (by decide +kernel), List.mem_of_getElem? (i := 507) (by decide +kernel)⟩
theorem lw_p9 : lw_okq (⟨"LeafTurner$PageSet", "choose", "(IILLeafTurner$Pictures;)V"⟩, 4) := ⟨⟨by decide +kernel, by decide +kernel⟩, List.mem_of_getElem? (i := 189) (by decide +kernel), List.mem_of_getElem? (i := 518) (by decide +kernel), List.mem_of_getElem? (i := 519) (by decide +kernel)⟩
theorem lw_p10 : lw_okq (⟨"LeafTurner", "countInSet", "(I)I"⟩, 7) := ⟨⟨by decide +kernel, by decide +kernel⟩, List.mem_of_getElem? (i := 14) (by decide +kernel), List.mem_of_getElem? (i := 568) (by decide +kernel), List.mem_of_getElem? (i := 569) (by decide +kernel)⟩
theorem lw_p11 : lw_okq (⟨"LeafTurnerModel", "fault", "()I"⟩, 13) := ⟨⟨by decide +kernel, by decide +kernel⟩, List.mem_of_getElem? (i := 590) (by decide +kernel), List.mem_of_getElem? (i := 640) (by decide +kernel), List.mem_of_getElem? (i := 641) (by decide +kernel)⟩
theorem lw_p12 : lw_okq (⟨"LeafTurnerModel", "isLeafTold", "()Z"⟩, 13) := ⟨⟨by decide +kernel, by decide +kernel⟩, List.mem_of_getElem? (i := 590) (by decide +kernel), List.mem_of_getElem? (i := 644) (by decide +kernel), List.mem_of_getElem? (i := 645) (by decide +kernel)⟩
theorem lw_p13 : lw_okq (⟨"LeafTurnerModel", "isDigit", "(I)Z"⟩, 13) := ⟨⟨by decide +kernel, by decide +kernel⟩, List.mem_of_getElem? (i := 590) (by decide +kernel), List.mem_of_getElem? (i := 648) (by decide +kernel), List.mem_of_getElem? (i := 649) (by decide +kernel)⟩
theorem lw_p14 : lw_okq (⟨"LeafTurnerModel", "sees", "(II)Z"⟩, 13) := ⟨⟨by decide +kernel, by decide +kernel⟩, List.mem_of_getElem? (i := 590) (by decide +kernel), List.mem_of_getElem? (i := 652) (by decide +kernel), List.mem_of_getElem? (i := 653) (by decide +kernel)⟩
theorem lw_p15 : lw_okq (⟨"LeafTurnerModel", "takesSign", "(I)Z"⟩, 13) := ⟨⟨by decide +kernel, by decide +kernel⟩, List.mem_of_getElem? (i := 590) (by decide +kernel), List.mem_of_getElem? (i := 659) (by decide +kernel), List.mem_of_getElem? (i := 660) (by decide +kernel)⟩
def lw_privs_1 : List (MethodName × Nat) := [(⟨"LeafTurner$BookText", "isDigit", "(I)Z"⟩, 2), (⟨"LeafTurner$BookText", "has", "(I)Z"⟩, 2), (⟨"LeafTurner$BookText", "digit", "(I)I"⟩, 2), (⟨"LeafTurner$BookText", "is", "(IC)Z"⟩, 2), (⟨"LeafTurner$BookText", "readMark", "(ILLeafTurner$Book;)I"⟩, 2), (⟨"LeafTurner$History", "dropOldest", "()V"⟩, 2), (⟨"LeafTurner$State", "learnFrom", "(I)V"⟩, 10), (⟨"LeafTurner$State", "takePicture", "(I)V"⟩, 10), (⟨"LeafTurner$PageSet", "guessOf", "(IILLeafTurner$State;)I"⟩, 4), (⟨"LeafTurner$PageSet", "choose", "(IILLeafTurner$Pictures;)V"⟩, 4), (⟨"LeafTurner", "countInSet", "(I)I"⟩, 7), (⟨"LeafTurnerModel", "fault", "()I"⟩, 13), (⟨"LeafTurnerModel", "isLeafTold", "()Z"⟩, 13), (⟨"LeafTurnerModel", "isDigit", "(I)Z"⟩, 13), (⟨"LeafTurnerModel", "sees", "(II)Z"⟩, 13), (⟨"LeafTurnerModel", "takesSign", "(I)Z"⟩, 13)]
theorem lw_r1 : ∀ q ∈ lw_privs_1, lw_okq q := List.forall_mem_cons.mpr ⟨lw_p0, List.forall_mem_cons.mpr ⟨lw_p1, List.forall_mem_cons.mpr ⟨lw_p2, List.forall_mem_cons.mpr ⟨lw_p3, List.forall_mem_cons.mpr ⟨lw_p4, List.forall_mem_cons.mpr ⟨lw_p5, List.forall_mem_cons.mpr ⟨lw_p6, List.forall_mem_cons.mpr ⟨lw_p7, List.forall_mem_cons.mpr ⟨lw_p8, List.forall_mem_cons.mpr ⟨lw_p9, List.forall_mem_cons.mpr ⟨lw_p10, List.forall_mem_cons.mpr ⟨lw_p11, List.forall_mem_cons.mpr ⟨lw_p12, List.forall_mem_cons.mpr ⟨lw_p13, List.forall_mem_cons.mpr ⟨lw_p14, List.forall_mem_cons.mpr ⟨lw_p15, fun _ h => absurd h List.not_mem_nil⟩⟩⟩⟩⟩⟩⟩⟩⟩⟩⟩⟩⟩⟩⟩⟩
theorem lw_p16 : lw_okq (⟨"LeafTurnerModel", "records", "([I)V"⟩, 13) := ⟨⟨by decide +kernel, by decide +kernel⟩, List.mem_of_getElem? (i := 590) (by decide +kernel), List.mem_of_getElem? (i := 663) (by decide +kernel), List.mem_of_getElem? (i := 664) (by decide +kernel)⟩
theorem lw_p17 : lw_okq (⟨"LeafTurnerModel", "clears", "()V"⟩, 13) := ⟨⟨by decide +kernel, by decide +kernel⟩, List.mem_of_getElem? (i := 590) (by decide +kernel), List.mem_of_getElem? (i := 670) (by decide +kernel), List.mem_of_getElem? (i := 671) (by decide +kernel)⟩
theorem lw_p18 : lw_okq (⟨"LeafTurnerModel", "adds", "(III)V"⟩, 13) := ⟨⟨by decide +kernel, by decide +kernel⟩, List.mem_of_getElem? (i := 590) (by decide +kernel), List.mem_of_getElem? (i := 674) (by decide +kernel), List.mem_of_getElem? (i := 675) (by decide +kernel)⟩
theorem lw_p19 : lw_okq (⟨"LeafTurnerModel", "isPage", "(I)Z"⟩, 13) := ⟨⟨by decide +kernel, by decide +kernel⟩, List.mem_of_getElem? (i := 590) (by decide +kernel), List.mem_of_getElem? (i := 686) (by decide +kernel), List.mem_of_getElem? (i := 687) (by decide +kernel)⟩
theorem lw_p20 : lw_okq (⟨"LeafTurnerModel", "isRight", "()Z"⟩, 13) := ⟨⟨by decide +kernel, by decide +kernel⟩, List.mem_of_getElem? (i := 590) (by decide +kernel), List.mem_of_getElem? (i := 694) (by decide +kernel), List.mem_of_getElem? (i := 695) (by decide +kernel)⟩
theorem lw_p21 : lw_okq (⟨"LeafTurnerModel", "isPicture", "(I)Z"⟩, 13) := ⟨⟨by decide +kernel, by decide +kernel⟩, List.mem_of_getElem? (i := 590) (by decide +kernel), List.mem_of_getElem? (i := 735) (by decide +kernel), List.mem_of_getElem? (i := 736) (by decide +kernel)⟩
theorem lw_p22 : lw_okq (⟨"LeafTurnerModel", "becomes", "(II)I"⟩, 13) := ⟨⟨by decide +kernel, by decide +kernel⟩, List.mem_of_getElem? (i := 590) (by decide +kernel), List.mem_of_getElem? (i := 743) (by decide +kernel), List.mem_of_getElem? (i := 744) (by decide +kernel)⟩
theorem lw_p23 : lw_okq (⟨"LeafTurnerModel", "guessesAll", "()V"⟩, 13) := ⟨⟨by decide +kernel, by decide +kernel⟩, List.mem_of_getElem? (i := 590) (by decide +kernel), List.mem_of_getElem? (i := 779) (by decide +kernel), List.mem_of_getElem? (i := 780) (by decide +kernel)⟩
theorem lw_p24 : lw_okq (⟨"LeafTurnerModel", "guess", "(I)I"⟩, 13) := ⟨⟨by decide +kernel, by decide +kernel⟩, List.mem_of_getElem? (i := 590) (by decide +kernel), List.mem_of_getElem? (i := 783) (by decide +kernel), List.mem_of_getElem? (i := 784) (by decide +kernel)⟩
theorem lw_p25 : lw_okq (⟨"LeafTurnerModel", "ofPicture", "(II)I"⟩, 13) := ⟨⟨by decide +kernel, by decide +kernel⟩, List.mem_of_getElem? (i := 590) (by decide +kernel), List.mem_of_getElem? (i := 787) (by decide +kernel), List.mem_of_getElem? (i := 788) (by decide +kernel)⟩
theorem lw_p26 : lw_okq (⟨"LeafTurnerModel", "shownBy", "(I)I"⟩, 13) := ⟨⟨by decide +kernel, by decide +kernel⟩, List.mem_of_getElem? (i := 590) (by decide +kernel), List.mem_of_getElem? (i := 791) (by decide +kernel), List.mem_of_getElem? (i := 792) (by decide +kernel)⟩
theorem lw_p27 : lw_okq (⟨"LeafTurnerModel", "isDoubtful", "(I)Z"⟩, 13) := ⟨⟨by decide +kernel, by decide +kernel⟩, List.mem_of_getElem? (i := 590) (by decide +kernel), List.mem_of_getElem? (i := 795) (by decide +kernel), List.mem_of_getElem? (i := 796) (by decide +kernel)⟩
theorem lw_p28 : lw_okq (⟨"LeafTurnerModel", "isSpare", "(I)Z"⟩, 13) := ⟨⟨by decide +kernel, by decide +kernel⟩, List.mem_of_getElem? (i := 590) (by decide +kernel), List.mem_of_getElem? (i := 803) (by decide +kernel), List.mem_of_getElem? (i := 804) (by decide +kernel)⟩
theorem lw_p29 : lw_okq (⟨"LeafTurnerModel", "pages", "(I)I"⟩, 13) := ⟨⟨by decide +kernel, by decide +kernel⟩, List.mem_of_getElem? (i := 590) (by decide +kernel), List.mem_of_getElem? (i := 827) (by decide +kernel), List.mem_of_getElem? (i := 828) (by decide +kernel)⟩
theorem lw_p30 : lw_okq (⟨"LeafTurnerModel", "pictures", "(I)I"⟩, 13) := ⟨⟨by decide +kernel, by decide +kernel⟩, List.mem_of_getElem? (i := 590) (by decide +kernel), List.mem_of_getElem? (i := 831) (by decide +kernel), List.mem_of_getElem? (i := 832) (by decide +kernel)⟩
def lw_privs_2 : List (MethodName × Nat) := [(⟨"LeafTurnerModel", "records", "([I)V"⟩, 13), (⟨"LeafTurnerModel", "clears", "()V"⟩, 13), (⟨"LeafTurnerModel", "adds", "(III)V"⟩, 13), (⟨"LeafTurnerModel", "isPage", "(I)Z"⟩, 13), (⟨"LeafTurnerModel", "isRight", "()Z"⟩, 13), (⟨"LeafTurnerModel", "isPicture", "(I)Z"⟩, 13), (⟨"LeafTurnerModel", "becomes", "(II)I"⟩, 13), (⟨"LeafTurnerModel", "guessesAll", "()V"⟩, 13), (⟨"LeafTurnerModel", "guess", "(I)I"⟩, 13), (⟨"LeafTurnerModel", "ofPicture", "(II)I"⟩, 13), (⟨"LeafTurnerModel", "shownBy", "(I)I"⟩, 13), (⟨"LeafTurnerModel", "isDoubtful", "(I)Z"⟩, 13), (⟨"LeafTurnerModel", "isSpare", "(I)Z"⟩, 13), (⟨"LeafTurnerModel", "pages", "(I)I"⟩, 13), (⟨"LeafTurnerModel", "pictures", "(I)I"⟩, 13)]
theorem lw_r2 : ∀ q ∈ lw_privs_2, lw_okq q := List.forall_mem_cons.mpr ⟨lw_p16, List.forall_mem_cons.mpr ⟨lw_p17, List.forall_mem_cons.mpr ⟨lw_p18, List.forall_mem_cons.mpr ⟨lw_p19, List.forall_mem_cons.mpr ⟨lw_p20, List.forall_mem_cons.mpr ⟨lw_p21, List.forall_mem_cons.mpr ⟨lw_p22, List.forall_mem_cons.mpr ⟨lw_p23, List.forall_mem_cons.mpr ⟨lw_p24, List.forall_mem_cons.mpr ⟨lw_p25, List.forall_mem_cons.mpr ⟨lw_p26, List.forall_mem_cons.mpr ⟨lw_p27, List.forall_mem_cons.mpr ⟨lw_p28, List.forall_mem_cons.mpr ⟨lw_p29, List.forall_mem_cons.mpr ⟨lw_p30, fun _ h => absurd h List.not_mem_nil⟩⟩⟩⟩⟩⟩⟩⟩⟩⟩⟩⟩⟩⟩⟩
def lw_privs : List (MethodName × Nat) := lw_privs_1 ++ (lw_privs_2)
def lw_tbl : List Cond := k2_sels lw_privs ++ tables_1
theorem lw_privs_ok : ∀ q ∈ lw_privs, lw_okq q := by
  show ∀ q ∈ lw_privs_1 ++ (lw_privs_2), lw_okq q
  exact List.forall_mem_append.mpr ⟨lw_r1, lw_r2⟩
/-! ===== BEGIN words of one list among another's, by their places ===== -/
theorem goodIn_r {big : List Cond} (ws : List Cond) (ps : List Nat) (hp : ws = ps.filterMap (fun i => big[i]?)) (h : ws.all goodWord = true) : GoodIn big ws := by
  intro w hw
  have h1 := List.all_eq_true.mp h w hw
  rw [hp] at hw
  obtain ⟨i, -, hi⟩ := List.mem_filterMap.mp hw
  have hm : w ∈ big := by first | exact List.mem_of_getElem? hi | exact List.getElem?_mem hi
  exact ⟨hm, good_of_word h1⟩
theorem goodIn_app {big a b : List Cond} (ha : GoodIn big a) (hb : GoodIn big b) : GoodIn big (a ++ b) := fun w h => (List.mem_append.mp h).elim (ha w) (hb w)
theorem goodIn_ca {big a b : List Cond} {c : Cond} (ha : GoodIn big (c :: a)) (hb : GoodIn big b) : GoodIn big (c :: (a ++ b)) := fun w h => (List.mem_cons.mp h).elim (fun e => ha w (List.mem_cons.mpr (Or.inl e))) (fun h => (List.mem_append.mp h).elim (fun h => ha w (List.mem_cons.mpr (Or.inr h))) (hb w))
theorem goodIn_sub {big ws : List Cond} (hm : ∀ w ∈ ws, w ∈ big) (h : ws.all goodWord = true) : GoodIn big ws := fun w hw => ⟨hm w hw, good_of_word (List.all_eq_true.mp h w hw)⟩
/-! ===== END ===== -/

/-! ===== BEGIN printed: names, fields, word lists, decode rows ===== -/
def RX0 : String := "LeafTurner$Book"
def TX0 : u_T := fun k => match k with
  | 0 => ("LeafTurner$Book", "weights", "LLeafTurner$Numbers;", true)
  | 1 => ("LeafTurner$Book", "strengths", "LLeafTurner$Numbers;", true)
  | 2 => ("LeafTurner$Book", "printed", "LLeafTurner$Numbers;", true)
  | _ => ("LeafTurner$Book", "leaves", "I", false)
def tyX0 : Nat → FieldType := fun k => match k with
  | 0 => .object "LeafTurner$Numbers"
  | 1 => .object "LeafTurner$Numbers"
  | 2 => .object "LeafTurner$Numbers"
  | _ => .int
abbrev wsX00 : List Cond := u_ws RX0 TX0 4
theorem nmX0 : ∀ a, a < 4 → ∀ b, b < 4 → a ≠ b → (TX0 a).2.1 ≠ (TX0 b).2.1 := by decide +kernel
theorem tyX0_ok : ∀ k, k < 4 → parseFieldDescriptor (TX0 k).2.2.1 = some (tyX0 k) := by decide +kernel
abbrev cX0_init : ByteArray := prog_2_method_1_code
def yX0_init : MethodName := ⟨RX0, "<init>", "()V"⟩
abbrev cX0_pages : ByteArray := prog_2_method_2_code
def yX0_pages : MethodName := ⟨RX0, "pages", "()I"⟩
abbrev cX0_hasPage : ByteArray := prog_2_method_3_code
def yX0_hasPage : MethodName := ⟨RX0, "hasPage", "(I)Z"⟩
abbrev cX0_addLeaf : ByteArray := prog_2_method_4_code
def yX0_addLeaf : MethodName := ⟨RX0, "addLeaf", "(II)V"⟩
abbrev cX0_printNothingOnLast : ByteArray := prog_2_method_5_code
def yX0_printNothingOnLast : MethodName := ⟨RX0, "printNothingOnLast", "()V"⟩
abbrev cX0_printTooMuchOnLast : ByteArray := prog_2_method_6_code
def yX0_printTooMuchOnLast : MethodName := ⟨RX0, "printTooMuchOnLast", "()V"⟩
abbrev cX0_layBySeed : ByteArray := prog_2_method_7_code
def yX0_layBySeed : MethodName := ⟨RX0, "layBySeed", "(II)I"⟩
abbrev cX0_copyFrom : ByteArray := prog_2_method_8_code
def yX0_copyFrom : MethodName := ⟨RX0, "copyFrom", "(LLeafTurner$Book;)V"⟩
def RX1 : String := "LeafTurner$BookText"
def TX1 : u_T := fun k => match k with
  | 0 => ("LeafTurner$BookText", "signs", "[C", true)
  | _ => ("LeafTurner$BookText", "length", "I", false)
def tyX1 : Nat → FieldType := fun k => match k with
  | 0 => .array .char
  | _ => .int
abbrev wsX10 : List Cond := u_ws RX1 TX1 2
theorem nmX1 : ∀ a, a < 2 → ∀ b, b < 2 → a ≠ b → (TX1 a).2.1 ≠ (TX1 b).2.1 := by decide +kernel
theorem tyX1_ok : ∀ k, k < 2 → parseFieldDescriptor (TX1 k).2.2.1 = some (tyX1 k) := by decide +kernel
abbrev cX1_init : ByteArray := prog_3_method_1_code
def yX1_init : MethodName := ⟨RX1, "<init>", "()V"⟩
abbrev cX1_add : ByteArray := prog_3_method_2_code
def yX1_add : MethodName := ⟨RX1, "add", "(C)V"⟩
abbrev cX1_readInto : ByteArray := prog_3_method_3_code
def yX1_readInto : MethodName := ⟨RX1, "readInto", "(LLeafTurner$Book;)I"⟩
abbrev cX1_readMark : ByteArray := prog_3_method_4_code
def yX1_readMark : MethodName := ⟨RX1, "readMark", "(ILLeafTurner$Book;)I"⟩
abbrev cX1_has : ByteArray := prog_3_method_5_code
def yX1_has : MethodName := ⟨RX1, "has", "(I)Z"⟩
abbrev cX1_is : ByteArray := prog_3_method_6_code
def yX1_is : MethodName := ⟨RX1, "is", "(IC)Z"⟩
abbrev cX1_isDigit : ByteArray := prog_3_method_7_code
def yX1_isDigit : MethodName := ⟨RX1, "isDigit", "(I)Z"⟩
abbrev cX1_digit : ByteArray := prog_3_method_8_code
def yX1_digit : MethodName := ⟨RX1, "digit", "(I)I"⟩
def RX2 : String := "LeafTurner$History"
def TX2 : u_T := fun k => match k with
  | 0 => ("LeafTurner$History", "states", "[LLeafTurner$State;", true)
  | _ => ("LeafTurner$History", "size", "I", false)
def tyX2 : Nat → FieldType := fun k => match k with
  | 0 => .array (.object "LeafTurner$State")
  | _ => .int
abbrev wsX20 : List Cond := u_ws RX2 TX2 2
theorem nmX2 : ∀ a, a < 2 → ∀ b, b < 2 → a ≠ b → (TX2 a).2.1 ≠ (TX2 b).2.1 := by decide +kernel
theorem tyX2_ok : ∀ k, k < 2 → parseFieldDescriptor (TX2 k).2.2.1 = some (tyX2 k) := by decide +kernel
abbrev cX2_init : ByteArray := prog_4_method_1_code
def yX2_init : MethodName := ⟨RX2, "<init>", "()V"⟩
abbrev cX2_record : ByteArray := prog_4_method_2_code
def yX2_record : MethodName := ⟨RX2, "record", "(LLeafTurner$State;)V"⟩
abbrev cX2_takeLatestInto : ByteArray := prog_4_method_3_code
def yX2_takeLatestInto : MethodName := ⟨RX2, "takeLatestInto", "(LLeafTurner$State;)V"⟩
abbrev cX2_dropOldest : ByteArray := prog_4_method_4_code
def yX2_dropOldest : MethodName := ⟨RX2, "dropOldest", "()V"⟩
def RX3 : String := "LeafTurner$Numbers"
def TX3 : u_T := fun k => match k with
  | _ => ("LeafTurner$Numbers", "cells", "[I", true)
def tyX3 : Nat → FieldType := fun k => match k with
  | _ => .array .int
abbrev wsX30 : List Cond := u_ws RX3 TX3 1
theorem nmX3 : ∀ a, a < 1 → ∀ b, b < 1 → a ≠ b → (TX3 a).2.1 ≠ (TX3 b).2.1 := by decide +kernel
theorem tyX3_ok : ∀ k, k < 1 → parseFieldDescriptor (TX3 k).2.2.1 = some (tyX3 k) := by decide +kernel
abbrev cX3_init : ByteArray := prog_5_method_1_code
def yX3_init : MethodName := ⟨RX3, "<init>", "(I)V"⟩
abbrev cX3_has : ByteArray := prog_5_method_2_code
def yX3_has : MethodName := ⟨RX3, "has", "(I)Z"⟩
abbrev cX3_at : ByteArray := prog_5_method_3_code
def yX3_at : MethodName := ⟨RX3, "at", "(I)I"⟩
abbrev cX3_put : ByteArray := prog_5_method_4_code
def yX3_put : MethodName := ⟨RX3, "put", "(II)V"⟩
abbrev cX3_putAll : ByteArray := prog_5_method_5_code
def yX3_putAll : MethodName := ⟨RX3, "putAll", "(I)V"⟩
abbrev cX3_removeAt : ByteArray := prog_5_method_6_code
def yX3_removeAt : MethodName := ⟨RX3, "removeAt", "(I)V"⟩
abbrev cX3_copyFrom : ByteArray := prog_5_method_7_code
def yX3_copyFrom : MethodName := ⟨RX3, "copyFrom", "(LLeafTurner$Numbers;)V"⟩
def RX4 : String := "LeafTurner$PageSet"
def TX4 : u_T := fun k => match k with
  | 0 => ("LeafTurner$PageSet", "guesses", "LLeafTurner$Numbers;", true)
  | 1 => ("LeafTurner$PageSet", "chosen", "LLeafTurner$Numbers;", true)
  | 2 => ("LeafTurner$PageSet", "pictures", "I", false)
  | _ => ("LeafTurner$PageSet", "pages", "I", false)
def tyX4 : Nat → FieldType := fun k => match k with
  | 0 => .object "LeafTurner$Numbers"
  | 1 => .object "LeafTurner$Numbers"
  | 2 => .int
  | _ => .int
abbrev wsX40 : List Cond := u_ws RX4 TX4 4
theorem nmX4 : ∀ a, a < 4 → ∀ b, b < 4 → a ≠ b → (TX4 a).2.1 ≠ (TX4 b).2.1 := by decide +kernel
theorem tyX4_ok : ∀ k, k < 4 → parseFieldDescriptor (TX4 k).2.2.1 = some (tyX4 k) := by decide +kernel
abbrev cX4_init : ByteArray := prog_6_method_1_code
def yX4_init : MethodName := ⟨RX4, "<init>", "()V"⟩
abbrev cX4_makeFor : ByteArray := prog_6_method_2_code
def yX4_makeFor : MethodName := ⟨RX4, "makeFor", "(LLeafTurner$State;)V"⟩
abbrev cX4_guessOf : ByteArray := prog_6_method_3_code
def yX4_guessOf : MethodName := ⟨RX4, "guessOf", "(IILLeafTurner$State;)I"⟩
abbrev cX4_choose : ByteArray := prog_6_method_4_code
def yX4_choose : MethodName := ⟨RX4, "choose", "(IILLeafTurner$Pictures;)V"⟩
abbrev cX4_isSpare : ByteArray := prog_6_method_5_code
def yX4_isSpare : MethodName := ⟨RX4, "isSpare", "(I)Z"⟩
abbrev cX4_isDoubtful : ByteArray := prog_6_method_6_code
def yX4_isDoubtful : MethodName := ⟨RX4, "isDoubtful", "(ILLeafTurner$Pictures;)Z"⟩
abbrev cX4_lackingAt : ByteArray := prog_6_method_7_code
def yX4_lackingAt : MethodName := ⟨RX4, "lackingAt", "(I)I"⟩
abbrev cX4_howManyLack : ByteArray := prog_6_method_8_code
def yX4_howManyLack : MethodName := ⟨RX4, "howManyLack", "()I"⟩
abbrev cX4_howManyDoubtful : ByteArray := prog_6_method_9_code
def yX4_howManyDoubtful : MethodName := ⟨RX4, "howManyDoubtful", "(LLeafTurner$Pictures;)I"⟩
abbrev cX4_howManySpare : ByteArray := prog_6_method_10_code
def yX4_howManySpare : MethodName := ⟨RX4, "howManySpare", "()I"⟩
abbrev cX4_howManyNotGuessed : ByteArray := prog_6_method_11_code
def yX4_howManyNotGuessed : MethodName := ⟨RX4, "howManyNotGuessed", "()I"⟩
def RX5 : String := "LeafTurner$Pictures"
def TX5 : u_T := fun k => match k with
  | 0 => ("LeafTurner$Pictures", "pages", "LLeafTurner$Numbers;", true)
  | 1 => ("LeafTurner$Pictures", "numbers", "LLeafTurner$Numbers;", true)
  | 2 => ("LeafTurner$Pictures", "gutters", "LLeafTurner$Numbers;", true)
  | 3 => ("LeafTurner$Pictures", "pairs", "LLeafTurner$Numbers;", true)
  | _ => ("LeafTurner$Pictures", "size", "I", false)
def tyX5 : Nat → FieldType := fun k => match k with
  | 0 => .object "LeafTurner$Numbers"
  | 1 => .object "LeafTurner$Numbers"
  | 2 => .object "LeafTurner$Numbers"
  | 3 => .object "LeafTurner$Numbers"
  | _ => .int
abbrev wsX50 : List Cond := u_ws RX5 TX5 5
theorem nmX5 : ∀ a, a < 5 → ∀ b, b < 5 → a ≠ b → (TX5 a).2.1 ≠ (TX5 b).2.1 := by decide +kernel
theorem tyX5_ok : ∀ k, k < 5 → parseFieldDescriptor (TX5 k).2.2.1 = some (tyX5 k) := by decide +kernel
abbrev cX5_init : ByteArray := prog_7_method_1_code
def yX5_init : MethodName := ⟨RX5, "<init>", "()V"⟩
abbrev cX5_has : ByteArray := prog_7_method_2_code
def yX5_has : MethodName := ⟨RX5, "has", "(I)Z"⟩
abbrev cX5_isGood : ByteArray := prog_7_method_3_code
def yX5_isGood : MethodName := ⟨RX5, "isGood", "(I)Z"⟩
abbrev cX5_add : ByteArray := prog_7_method_4_code
def yX5_add : MethodName := ⟨RX5, "add", "(IIZI)V"⟩
abbrev cX5_removeAt : ByteArray := prog_7_method_5_code
def yX5_removeAt : MethodName := ⟨RX5, "removeAt", "(I)V"⟩
abbrev cX5_howManyShow : ByteArray := prog_7_method_6_code
def yX5_howManyShow : MethodName := ⟨RX5, "howManyShow", "(I)I"⟩
abbrev cX5_copyFrom : ByteArray := prog_7_method_7_code
def yX5_copyFrom : MethodName := ⟨RX5, "copyFrom", "(LLeafTurner$Pictures;)V"⟩
def RX6 : String := "LeafTurner$State"
def TX6 : u_T := fun k => match k with
  | 0 => ("LeafTurner$State", "book", "LLeafTurner$Book;", true)
  | 1 => ("LeafTurner$State", "pictures", "LLeafTurner$Pictures;", true)
  | 2 => ("LeafTurner$State", "settings", "LLeafTurner$Numbers;", true)
  | 3 => ("LeafTurner$State", "left", "I", false)
  | 4 => ("LeafTurner$State", "suction", "I", false)
  | 5 => ("LeafTurner$State", "turnings", "I", false)
  | 6 => ("LeafTurner$State", "turningsOfMore", "I", false)
  | 7 => ("LeafTurner$State", "turningsOfNone", "I", false)
  | 8 => ("LeafTurner$State", "singlesInRow", "I", false)
  | _ => ("LeafTurner$State", "pairs", "I", false)
def tyX6 : Nat → FieldType := fun k => match k with
  | 0 => .object "LeafTurner$Book"
  | 1 => .object "LeafTurner$Pictures"
  | 2 => .object "LeafTurner$Numbers"
  | 3 => .int
  | 4 => .int
  | 5 => .int
  | 6 => .int
  | 7 => .int
  | 8 => .int
  | _ => .int
abbrev wsX60 : List Cond := u_ws RX6 TX6 10
theorem nmX6 : ∀ a, a < 10 → ∀ b, b < 10 → a ≠ b → (TX6 a).2.1 ≠ (TX6 b).2.1 := by decide +kernel
theorem tyX6_ok : ∀ k, k < 10 → parseFieldDescriptor (TX6 k).2.2.1 = some (tyX6 k) := by decide +kernel
abbrev cX6_init : ByteArray := prog_8_method_1_code
def yX6_init : MethodName := ⟨RX6, "<init>", "()V"⟩
abbrev cX6_copyFrom : ByteArray := prog_8_method_2_code
def yX6_copyFrom : MethodName := ⟨RX6, "copyFrom", "(LLeafTurner$State;)V"⟩
abbrev cX6_clearForBook : ByteArray := prog_8_method_3_code
def yX6_clearForBook : MethodName := ⟨RX6, "clearForBook", "()V"⟩
abbrev cX6_hasBook : ByteArray := prog_8_method_4_code
def yX6_hasBook : MethodName := ⟨RX6, "hasBook", "()Z"⟩
abbrev cX6_leavesOnRight : ByteArray := prog_8_method_5_code
def yX6_leavesOnRight : MethodName := ⟨RX6, "leavesOnRight", "()I"⟩
abbrev cX6_openOnLeft : ByteArray := prog_8_method_6_code
def yX6_openOnLeft : MethodName := ⟨RX6, "openOnLeft", "()I"⟩
abbrev cX6_openOnRight : ByteArray := prog_8_method_7_code
def yX6_openOnRight : MethodName := ⟨RX6, "openOnRight", "()I"⟩
abbrev cX6_liftedBy : ByteArray := prog_8_method_8_code
def yX6_liftedBy : MethodName := ⟨RX6, "liftedBy", "(I)I"⟩
abbrev cX6_turnOnce : ByteArray := prog_8_method_9_code
def yX6_turnOnce : MethodName := ⟨RX6, "turnOnce", "()I"⟩
abbrev cX6_learnFrom : ByteArray := prog_8_method_10_code
def yX6_learnFrom : MethodName := ⟨RX6, "learnFrom", "(I)V"⟩
abbrev cX6_gutterIsGood : ByteArray := prog_8_method_11_code
def yX6_gutterIsGood : MethodName := ⟨RX6, "gutterIsGood", "(I)Z"⟩
abbrev cX6_pagesOpen : ByteArray := prog_8_method_12_code
def yX6_pagesOpen : MethodName := ⟨RX6, "pagesOpen", "()I"⟩
abbrev cX6_hasRoomForPair : ByteArray := prog_8_method_13_code
def yX6_hasRoomForPair : MethodName := ⟨RX6, "hasRoomForPair", "()Z"⟩
abbrev cX6_takePair : ByteArray := prog_8_method_14_code
def yX6_takePair : MethodName := ⟨RX6, "takePair", "()I"⟩
abbrev cX6_takePicture : ByteArray := prog_8_method_15_code
def yX6_takePicture : MethodName := ⟨RX6, "takePicture", "(I)V"⟩
abbrev cX6_takeAndTurn : ByteArray := prog_8_method_16_code
def yX6_takeAndTurn : MethodName := ⟨RX6, "takeAndTurn", "(I)I"⟩
def RX7 : String := "LeafTurner"
def TX7 : u_T := fun k => match k with
  | 0 => ("LeafTurner", "now", "LLeafTurner$State;", true)
  | 1 => ("LeafTurner", "trial", "LLeafTurner$State;", true)
  | 2 => ("LeafTurner", "snapshot", "LLeafTurner$State;", true)
  | 3 => ("LeafTurner", "history", "LLeafTurner$History;", true)
  | 4 => ("LeafTurner", "text", "LLeafTurner$BookText;", true)
  | 5 => ("LeafTurner", "pageSet", "LLeafTurner$PageSet;", true)
  | _ => ("LeafTurner", "hasSnapshot", "Z", false)
def tyX7 : Nat → FieldType := fun k => match k with
  | 0 => .object "LeafTurner$State"
  | 1 => .object "LeafTurner$State"
  | 2 => .object "LeafTurner$State"
  | 3 => .object "LeafTurner$History"
  | 4 => .object "LeafTurner$BookText"
  | 5 => .object "LeafTurner$PageSet"
  | _ => .boolean
abbrev wsX70 : List Cond := u_ws RX7 TX7 7
theorem nmX7 : ∀ a, a < 7 → ∀ b, b < 7 → a ≠ b → (TX7 a).2.1 ≠ (TX7 b).2.1 := by decide +kernel
theorem tyX7_ok : ∀ k, k < 7 → parseFieldDescriptor (TX7 k).2.2.1 = some (tyX7 k) := by decide +kernel
abbrev cX7_init : ByteArray := prog_1_method_1_code
def yX7_init : MethodName := ⟨RX7, "<init>", "()V"⟩
abbrev cX7_takeBook : ByteArray := prog_1_method_2_code
def yX7_takeBook : MethodName := ⟨RX7, "takeBook", "()I"⟩
abbrev cX7_layBook : ByteArray := prog_1_method_3_code
def yX7_layBook : MethodName := ⟨RX7, "layBook", "(II)I"⟩
abbrev cX7_print : ByteArray := prog_1_method_4_code
def yX7_print : MethodName := ⟨RX7, "print", "(II)I"⟩
abbrev cX7_turn : ByteArray := prog_1_method_5_code
def yX7_turn : MethodName := ⟨RX7, "turn", "()I"⟩
abbrev cX7_turnBack : ByteArray := prog_1_method_6_code
def yX7_turnBack : MethodName := ⟨RX7, "turnBack", "()I"⟩
abbrev cX7_shoot : ByteArray := prog_1_method_7_code
def yX7_shoot : MethodName := ⟨RX7, "shoot", "()I"⟩
abbrev cX7_scan : ByteArray := prog_1_method_8_code
def yX7_scan : MethodName := ⟨RX7, "scan", "(I)I"⟩
abbrev cX7_throwAway : ByteArray := prog_1_method_9_code
def yX7_throwAway : MethodName := ⟨RX7, "throwAway", "(I)I"⟩
abbrev cX7_setSuction : ByteArray := prog_1_method_10_code
def yX7_setSuction : MethodName := ⟨RX7, "setSuction", "(I)I"⟩
abbrev cX7_set : ByteArray := prog_1_method_11_code
def yX7_set : MethodName := ⟨RX7, "set", "(II)I"⟩
abbrev cX7_type : ByteArray := prog_1_method_12_code
def yX7_type : MethodName := ⟨RX7, "type", "(C)I"⟩
abbrev cX7_clearText : ByteArray := prog_1_method_13_code
def yX7_clearText : MethodName := ⟨RX7, "clearText", "()I"⟩
abbrev cX7_undo : ByteArray := prog_1_method_14_code
def yX7_undo : MethodName := ⟨RX7, "undo", "()I"⟩
abbrev cX7_keep : ByteArray := prog_1_method_15_code
def yX7_keep : MethodName := ⟨RX7, "keep", "()I"⟩
abbrev cX7_restore : ByteArray := prog_1_method_16_code
def yX7_restore : MethodName := ⟨RX7, "restore", "()I"⟩
abbrev cX7_leaf : ByteArray := prog_1_method_17_code
def yX7_leaf : MethodName := ⟨RX7, "leaf", "(II)I"⟩
abbrev cX7_page : ByteArray := prog_1_method_18_code
def yX7_page : MethodName := ⟨RX7, "page", "(II)I"⟩
abbrev cX7_picture : ByteArray := prog_1_method_19_code
def yX7_picture : MethodName := ⟨RX7, "picture", "(II)I"⟩
abbrev cX7_open : ByteArray := prog_1_method_20_code
def yX7_open : MethodName := ⟨RX7, "open", "(I)I"⟩
abbrev cX7_would : ByteArray := prog_1_method_21_code
def yX7_would : MethodName := ⟨RX7, "would", "(I)I"⟩
abbrev cX7_best : ByteArray := prog_1_method_22_code
def yX7_best : MethodName := ⟨RX7, "best", "()I"⟩
abbrev cX7_lacking : ByteArray := prog_1_method_23_code
def yX7_lacking : MethodName := ⟨RX7, "lacking", "(I)I"⟩
abbrev cX7_count : ByteArray := prog_1_method_24_code
def yX7_count : MethodName := ⟨RX7, "count", "(I)I"⟩
abbrev cX7_countInSet : ByteArray := prog_1_method_25_code
def yX7_countInSet : MethodName := ⟨RX7, "countInSet", "(I)I"⟩
abbrev cX7_isSuction : ByteArray := prog_1_method_26_code
def yX7_isSuction : MethodName := ⟨RX7, "isSuction", "(I)Z"⟩
abbrev cX7_isRightPage : ByteArray := prog_1_method_27_code
def yX7_isRightPage : MethodName := ⟨RX7, "isRightPage", "(I)Z"⟩
abbrev cX7_asNumber : ByteArray := prog_1_method_28_code
def yX7_asNumber : MethodName := ⟨RX7, "asNumber", "(Z)I"⟩
def RX8 : String := "LeafTurnerModel"
def TX8 : u_T := fun k => match k with
  | 0 => ("LeafTurnerModel", "now", "[I", true)
  | 1 => ("LeafTurnerModel", "then", "[I", true)
  | 2 => ("LeafTurnerModel", "past", "[I", true)
  | 3 => ("LeafTurnerModel", "states", "I", false)
  | 4 => ("LeafTurnerModel", "snapshot", "[I", true)
  | 5 => ("LeafTurnerModel", "isKept", "Z", false)
  | 6 => ("LeafTurnerModel", "text", "[C", true)
  | 7 => ("LeafTurnerModel", "length", "I", false)
  | 8 => ("LeafTurnerModel", "guesses", "[I", true)
  | 9 => ("LeafTurnerModel", "chosen", "[I", true)
  | 10 => ("LeafTurnerModel", "spot", "I", false)
  | 11 => ("LeafTurnerModel", "told", "[I", true)
  | _ => ("LeafTurnerModel", "toldMany", "I", false)
def tyX8 : Nat → FieldType := fun k => match k with
  | 0 => .array .int
  | 1 => .array .int
  | 2 => .array .int
  | 3 => .int
  | 4 => .array .int
  | 5 => .boolean
  | 6 => .array .char
  | 7 => .int
  | 8 => .array .int
  | 9 => .array .int
  | 10 => .int
  | 11 => .array .int
  | _ => .int
abbrev wsX80 : List Cond := u_ws RX8 TX8 13
theorem nmX8 : ∀ a, a < 13 → ∀ b, b < 13 → a ≠ b → (TX8 a).2.1 ≠ (TX8 b).2.1 := by decide +kernel
theorem tyX8_ok : ∀ k, k < 13 → parseFieldDescriptor (TX8 k).2.2.1 = some (tyX8 k) := by decide +kernel
abbrev cX8_init : ByteArray := prog_10_method_1_code
def yX8_init : MethodName := ⟨RX8, "<init>", "()V"⟩
abbrev cX8_in : ByteArray := prog_10_method_3_code
def yX8_in : MethodName := ⟨RX8, "in", "(III)Z"⟩
abbrev cX8_lays : ByteArray := prog_10_method_4_code
def yX8_lays : MethodName := ⟨RX8, "lays", "([II[II)V"⟩
abbrev cX8_records : ByteArray := prog_10_method_5_code
def yX8_records : MethodName := ⟨RX8, "records", "([I)V"⟩
abbrev cX8_clears : ByteArray := prog_10_method_6_code
def yX8_clears : MethodName := ⟨RX8, "clears", "()V"⟩
abbrev cX8_adds : ByteArray := prog_10_method_7_code
def yX8_adds : MethodName := ⟨RX8, "adds", "(III)V"⟩
abbrev cX8_takeBook : ByteArray := prog_10_method_8_code
def yX8_takeBook : MethodName := ⟨RX8, "takeBook", "()I"⟩
abbrev cX8_layBook : ByteArray := prog_10_method_9_code
def yX8_layBook : MethodName := ⟨RX8, "layBook", "(II)I"⟩
abbrev cX8_isPage : ByteArray := prog_10_method_10_code
def yX8_isPage : MethodName := ⟨RX8, "isPage", "(I)Z"⟩
abbrev cX8_print : ByteArray := prog_10_method_11_code
def yX8_print : MethodName := ⟨RX8, "print", "(II)I"⟩
abbrev cX8_wouldTurn : ByteArray := prog_10_method_12_code
def yX8_wouldTurn : MethodName := ⟨RX8, "wouldTurn", "([II)I"⟩
abbrev cX8_learns : ByteArray := prog_10_method_13_code
def yX8_learns : MethodName := ⟨RX8, "learns", "([II)V"⟩
abbrev cX8_turns : ByteArray := prog_10_method_14_code
def yX8_turns : MethodName := ⟨RX8, "turns", "([I)I"⟩
abbrev cX8_isRight : ByteArray := prog_10_method_15_code
def yX8_isRight : MethodName := ⟨RX8, "isRight", "()Z"⟩
abbrev cX8_turn : ByteArray := prog_10_method_16_code
def yX8_turn : MethodName := ⟨RX8, "turn", "()I"⟩
abbrev cX8_turnBack : ByteArray := prog_10_method_17_code
def yX8_turnBack : MethodName := ⟨RX8, "turnBack", "()I"⟩
abbrev cX8_isGood : ByteArray := prog_10_method_18_code
def yX8_isGood : MethodName := ⟨RX8, "isGood", "([II)Z"⟩
abbrev cX8_openOn : ByteArray := prog_10_method_19_code
def yX8_openOn : MethodName := ⟨RX8, "openOn", "([II)I"⟩
abbrev cX8_shots : ByteArray := prog_10_method_20_code
def yX8_shots : MethodName := ⟨RX8, "shots", "([I)I"⟩
abbrev cX8_takes : ByteArray := prog_10_method_21_code
def yX8_takes : MethodName := ⟨RX8, "takes", "([III)V"⟩
abbrev cX8_shoot : ByteArray := prog_10_method_22_code
def yX8_shoot : MethodName := ⟨RX8, "shoot", "()I"⟩
abbrev cX8_scan : ByteArray := prog_10_method_23_code
def yX8_scan : MethodName := ⟨RX8, "scan", "(I)I"⟩
abbrev cX8_isPicture : ByteArray := prog_10_method_24_code
def yX8_isPicture : MethodName := ⟨RX8, "isPicture", "(I)Z"⟩
abbrev cX8_throwAway : ByteArray := prog_10_method_25_code
def yX8_throwAway : MethodName := ⟨RX8, "throwAway", "(I)I"⟩
abbrev cX8_becomes : ByteArray := prog_10_method_26_code
def yX8_becomes : MethodName := ⟨RX8, "becomes", "(II)I"⟩
abbrev cX8_setSuction : ByteArray := prog_10_method_27_code
def yX8_setSuction : MethodName := ⟨RX8, "setSuction", "(I)I"⟩
abbrev cX8_set : ByteArray := prog_10_method_28_code
def yX8_set : MethodName := ⟨RX8, "set", "(II)I"⟩
abbrev cX8_ofPicture : ByteArray := prog_10_method_29_code
def yX8_ofPicture : MethodName := ⟨RX8, "ofPicture", "(II)I"⟩
abbrev cX8_guess : ByteArray := prog_10_method_30_code
def yX8_guess : MethodName := ⟨RX8, "guess", "(I)I"⟩
abbrev cX8_guessesAll : ByteArray := prog_10_method_31_code
def yX8_guessesAll : MethodName := ⟨RX8, "guessesAll", "()V"⟩
abbrev cX8_isDoubtful : ByteArray := prog_10_method_32_code
def yX8_isDoubtful : MethodName := ⟨RX8, "isDoubtful", "(I)Z"⟩
abbrev cX8_isSpare : ByteArray := prog_10_method_33_code
def yX8_isSpare : MethodName := ⟨RX8, "isSpare", "(I)Z"⟩
abbrev cX8_shownBy : ByteArray := prog_10_method_34_code
def yX8_shownBy : MethodName := ⟨RX8, "shownBy", "(I)I"⟩
abbrev cX8_type : ByteArray := prog_10_method_35_code
def yX8_type : MethodName := ⟨RX8, "type", "(C)I"⟩
abbrev cX8_clearText : ByteArray := prog_10_method_36_code
def yX8_clearText : MethodName := ⟨RX8, "clearText", "()I"⟩
abbrev cX8_sees : ByteArray := prog_10_method_37_code
def yX8_sees : MethodName := ⟨RX8, "sees", "(II)Z"⟩
abbrev cX8_takesSign : ByteArray := prog_10_method_38_code
def yX8_takesSign : MethodName := ⟨RX8, "takesSign", "(I)Z"⟩
abbrev cX8_isDigit : ByteArray := prog_10_method_39_code
def yX8_isDigit : MethodName := ⟨RX8, "isDigit", "(I)Z"⟩
abbrev cX8_isLeafTold : ByteArray := prog_10_method_40_code
def yX8_isLeafTold : MethodName := ⟨RX8, "isLeafTold", "()Z"⟩
abbrev cX8_fault : ByteArray := prog_10_method_41_code
def yX8_fault : MethodName := ⟨RX8, "fault", "()I"⟩
abbrev cX8_undo : ByteArray := prog_10_method_42_code
def yX8_undo : MethodName := ⟨RX8, "undo", "()I"⟩
abbrev cX8_keep : ByteArray := prog_10_method_43_code
def yX8_keep : MethodName := ⟨RX8, "keep", "()I"⟩
abbrev cX8_restore : ByteArray := prog_10_method_44_code
def yX8_restore : MethodName := ⟨RX8, "restore", "()I"⟩
abbrev cX8_leaf : ByteArray := prog_10_method_45_code
def yX8_leaf : MethodName := ⟨RX8, "leaf", "(II)I"⟩
abbrev cX8_page : ByteArray := prog_10_method_46_code
def yX8_page : MethodName := ⟨RX8, "page", "(II)I"⟩
abbrev cX8_picture : ByteArray := prog_10_method_47_code
def yX8_picture : MethodName := ⟨RX8, "picture", "(II)I"⟩
abbrev cX8_open : ByteArray := prog_10_method_48_code
def yX8_open : MethodName := ⟨RX8, "open", "(I)I"⟩
abbrev cX8_would : ByteArray := prog_10_method_49_code
def yX8_would : MethodName := ⟨RX8, "would", "(I)I"⟩
abbrev cX8_best : ByteArray := prog_10_method_50_code
def yX8_best : MethodName := ⟨RX8, "best", "()I"⟩
abbrev cX8_lacking : ByteArray := prog_10_method_51_code
def yX8_lacking : MethodName := ⟨RX8, "lacking", "(I)I"⟩
abbrev cX8_pages : ByteArray := prog_10_method_52_code
def yX8_pages : MethodName := ⟨RX8, "pages", "(I)I"⟩
abbrev cX8_pictures : ByteArray := prog_10_method_53_code
def yX8_pictures : MethodName := ⟨RX8, "pictures", "(I)I"⟩
abbrev cX8_count : ByteArray := prog_10_method_54_code
def yX8_count : MethodName := ⟨RX8, "count", "(I)I"⟩
def RJ9 : String := "java/lang/Math"
def TJ9 : u_T := fun k => match k with
  | _ => ("", "", "", false)
def tyJ9 : Nat → FieldType := fun k => match k with
  | _ => .int
abbrev wsJ90 : List Cond := u_ws RJ9 TJ9 0
theorem nmJ9 : ∀ a, a < 0 → ∀ b, b < 0 → a ≠ b → (TJ9 a).2.1 ≠ (TJ9 b).2.1 := by decide +kernel
theorem tyJ9_ok : ∀ k, k < 0 → parseFieldDescriptor (TJ9 k).2.2.1 = some (tyJ9 k) := by decide +kernel
abbrev cJ9_max_7cf53 : ByteArray := prog_11_method_65_code
def yJ9_max_7cf53 : MethodName := ⟨RJ9, "max", "(II)I"⟩
abbrev cJ9_min_7cf53 : ByteArray := prog_11_method_69_code
def yJ9_min_7cf53 : MethodName := ⟨RJ9, "min", "(II)I"⟩
def RJ10 : String := "java/lang/System"
def TJ10 : u_T := fun k => match k with
  | _ => ("", "", "", false)
def tyJ10 : Nat → FieldType := fun k => match k with
  | _ => .int
abbrev wsJ100 : List Cond := u_ws RJ10 TJ10 0
theorem nmJ10 : ∀ a, a < 0 → ∀ b, b < 0 → a ≠ b → (TJ10 a).2.1 ≠ (TJ10 b).2.1 := by decide +kernel
theorem tyJ10_ok : ∀ k, k < 0 → parseFieldDescriptor (TJ10 k).2.2.1 = some (tyJ10 k) := by decide +kernel
def RJ7 : String := "java/util/Arrays"
def TJ7 : u_T := fun k => match k with
  | _ => ("", "", "", false)
def tyJ7 : Nat → FieldType := fun k => match k with
  | _ => .int
abbrev wsJ70 : List Cond := u_ws RJ7 TJ7 0
theorem nmJ7 : ∀ a, a < 0 → ∀ b, b < 0 → a ≠ b → (TJ7 a).2.1 ≠ (TJ7 b).2.1 := by decide +kernel
theorem tyJ7_ok : ∀ k, k < 0 → parseFieldDescriptor (TJ7 k).2.2.1 = some (tyJ7 k) := by decide +kernel
abbrev cJ7_fill_53178 : ByteArray := prog_13_method_103_code
def yJ7_fill_53178 : MethodName := ⟨RJ7, "fill", "([II)V"⟩
def RL : String := "LeafTurnerLaw"
abbrev cL_law : ByteArray := code
def yL_law : MethodName := ⟨RL, "law", "([I)Z"⟩
def wsX3_init : List Cond := .code yX3_init cX3_init 2 none :: ([.methodLink RX3 3 objectInit, .instanceMethod objectInit, .code objectInit ⟨#[0xb1]⟩ 1 none, .methodLink RX3 9 Lib.Math.max.name, .static Lib.Math.max.name, .initialized "java/lang/Math", .code Lib.Math.max.name Lib.Math.max.code 2 (some .int), .arrayClass .int, .fieldLink RX3 15 "LeafTurner$Numbers" "cells" "[I"] ++ wsX30)
def wsX0_init : List Cond := .code yX0_init cX0_init 1 none :: ([.methodLink RX0 3 objectInit, .instanceMethod objectInit, .code objectInit ⟨#[0xb1]⟩ 1 none, .classLink RX0 9 RX3, .instantiable RX3 1, .initialized RX3, .fieldLink RX0 14 "LeafTurner$Book" "weights" "LLeafTurner$Numbers;", .fieldLink RX0 20 "LeafTurner$Book" "strengths" "LLeafTurner$Numbers;", .fieldLink RX0 23 "LeafTurner$Book" "printed" "LLeafTurner$Numbers;", .fieldLink RX0 26 "LeafTurner$Book" "leaves" "I", .methodLink RX0 11 yX3_init, .instanceMethod yX3_init, .code yX3_init cX3_init 2 none, .methodLink RX3 3 objectInit, .methodLink RX3 9 Lib.Math.max.name, .static Lib.Math.max.name, .initialized "java/lang/Math", .code Lib.Math.max.name Lib.Math.max.code 2 (some .int), .arrayClass .int, .fieldLink RX3 15 "LeafTurner$Numbers" "cells" "[I"] ++ wsX30 ++ wsX00)
def wsX0_pages : List Cond := .code yX0_pages cX0_pages 1 (some .int) :: ([.fieldLink RX0 26 "LeafTurner$Book" "leaves" "I"] ++ wsX00)
def wsX0_hasPage : List Cond := .code yX0_hasPage cX0_hasPage 2 (some .boolean) :: ([.methodLink RX0 30 yX0_pages, .instanceMethod yX0_pages, .selects RX0 yX0_pages yX0_pages, .initialized RX0, .code yX0_pages cX0_pages 1 (some .int), .fieldLink RX0 26 "LeafTurner$Book" "leaves" "I"] ++ wsX00)
def wsX3_has : List Cond := .code yX3_has cX3_has 2 (some .boolean) :: ([.fieldLink RX3 15 "LeafTurner$Numbers" "cells" "[I"] ++ wsX30)
def wsX3_put : List Cond := .code yX3_put cX3_put 3 none :: ([.fieldLink RX3 15 "LeafTurner$Numbers" "cells" "[I", .methodLink RX3 21 yX3_has, .instanceMethod yX3_has, .selects RX3 yX3_has yX3_has, .initialized RX3, .code yX3_has cX3_has 2 (some .boolean)] ++ wsX30)
def wsX0_addLeaf : List Cond := .code yX0_addLeaf cX0_addLeaf 4 none :: ([.fieldLink RX0 26 "LeafTurner$Book" "leaves" "I", .fieldLink RX0 14 "LeafTurner$Book" "weights" "LLeafTurner$Numbers;", .fieldLink RX0 20 "LeafTurner$Book" "strengths" "LLeafTurner$Numbers;", .fieldLink RX0 23 "LeafTurner$Book" "printed" "LLeafTurner$Numbers;", .methodLink RX0 34 yX3_put, .instanceMethod yX3_put, .selects RX3 yX3_put yX3_put, .initialized RX3, .code yX3_put cX3_put 3 none, .fieldLink RX3 15 "LeafTurner$Numbers" "cells" "[I", .methodLink RX3 21 yX3_has, .instanceMethod yX3_has, .selects RX3 yX3_has yX3_has, .code yX3_has cX3_has 2 (some .boolean)] ++ wsX00 ++ wsX30)
def wsX0_printNothingOnLast : List Cond := .code yX0_printNothingOnLast cX0_printNothingOnLast 1 none :: ([.fieldLink RX0 23 "LeafTurner$Book" "printed" "LLeafTurner$Numbers;", .methodLink RX0 30 yX0_pages, .instanceMethod yX0_pages, .selects RX0 yX0_pages yX0_pages, .initialized RX0, .code yX0_pages cX0_pages 1 (some .int), .fieldLink RX0 26 "LeafTurner$Book" "leaves" "I", .methodLink RX0 34 yX3_put, .instanceMethod yX3_put, .selects RX3 yX3_put yX3_put, .initialized RX3, .code yX3_put cX3_put 3 none, .fieldLink RX3 15 "LeafTurner$Numbers" "cells" "[I", .methodLink RX3 21 yX3_has, .instanceMethod yX3_has, .selects RX3 yX3_has yX3_has, .code yX3_has cX3_has 2 (some .boolean)] ++ wsX00 ++ wsX30)
def wsX0_printTooMuchOnLast : List Cond := .code yX0_printTooMuchOnLast cX0_printTooMuchOnLast 1 none :: ([.fieldLink RX0 23 "LeafTurner$Book" "printed" "LLeafTurner$Numbers;", .methodLink RX0 30 yX0_pages, .instanceMethod yX0_pages, .selects RX0 yX0_pages yX0_pages, .initialized RX0, .code yX0_pages cX0_pages 1 (some .int), .fieldLink RX0 26 "LeafTurner$Book" "leaves" "I", .methodLink RX0 34 yX3_put, .instanceMethod yX3_put, .selects RX3 yX3_put yX3_put, .initialized RX3, .code yX3_put cX3_put 3 none, .fieldLink RX3 15 "LeafTurner$Numbers" "cells" "[I", .methodLink RX3 21 yX3_has, .instanceMethod yX3_has, .selects RX3 yX3_has yX3_has, .code yX3_has cX3_has 2 (some .boolean)] ++ wsX00 ++ wsX30)
def wsX0_layBySeed_r1 : List Cond := [Cond.fieldLink RX0 26 "LeafTurner$Book" "leaves" "I", Cond.methodLink RX0 38 yX0_addLeaf, Cond.instanceMethod yX0_addLeaf, Cond.selects RX0 yX0_addLeaf yX0_addLeaf, Cond.initialized RX0, Cond.code yX0_addLeaf cX0_addLeaf 4 none, Cond.fieldLink RX0 14 "LeafTurner$Book" "weights" "LLeafTurner$Numbers;", Cond.fieldLink RX0 20 "LeafTurner$Book" "strengths" "LLeafTurner$Numbers;", Cond.fieldLink RX0 23 "LeafTurner$Book" "printed" "LLeafTurner$Numbers;", Cond.methodLink RX0 34 yX3_put, Cond.instanceMethod yX3_put, Cond.selects RX3 yX3_put yX3_put, Cond.initialized RX3, Cond.code yX3_put cX3_put 3 none, Cond.fieldLink RX3 15 "LeafTurner$Numbers" "cells" "[I", Cond.methodLink RX3 21 yX3_has, Cond.instanceMethod yX3_has, Cond.selects RX3 yX3_has yX3_has, Cond.code yX3_has cX3_has 2 (some .boolean), Cond.methodLink RX0 41 yX0_printNothingOnLast, Cond.instanceMethod yX0_printNothingOnLast, Cond.selects RX0 yX0_printNothingOnLast yX0_printNothingOnLast, Cond.code yX0_printNothingOnLast cX0_printNothingOnLast 1 none, Cond.methodLink RX0 30 yX0_pages]
def wsX0_layBySeed_r2 : List Cond := [Cond.instanceMethod yX0_pages, Cond.selects RX0 yX0_pages yX0_pages, Cond.code yX0_pages cX0_pages 1 (some .int)]
def wsX0_layBySeed : List Cond := .code yX0_layBySeed cX0_layBySeed 8 (some .int) :: ((wsX0_layBySeed_r1 ++ wsX0_layBySeed_r2) ++ wsX00 ++ wsX30)
def wsX3_copyFrom : List Cond := .code yX3_copyFrom cX3_copyFrom 2 none :: ([.fieldLink RX3 15 "LeafTurner$Numbers" "cells" "[I", .methodLink RX3 37 Lib.Math.min.name, .static Lib.Math.min.name, .initialized "java/lang/Math", .code Lib.Math.min.name Lib.Math.min.code 2 (some .int), .methodLink RX3 31 arraycopyName, .native arraycopyName, .static arraycopyName, .initialized "java/lang/System"] ++ wsX30)
def wsX0_copyFrom : List Cond := .code yX0_copyFrom cX0_copyFrom 2 none :: ([.fieldLink RX0 14 "LeafTurner$Book" "weights" "LLeafTurner$Numbers;", .fieldLink RX0 20 "LeafTurner$Book" "strengths" "LLeafTurner$Numbers;", .fieldLink RX0 23 "LeafTurner$Book" "printed" "LLeafTurner$Numbers;", .fieldLink RX0 26 "LeafTurner$Book" "leaves" "I", .methodLink RX0 44 yX3_copyFrom, .instanceMethod yX3_copyFrom, .selects RX3 yX3_copyFrom yX3_copyFrom, .initialized RX3, .code yX3_copyFrom cX3_copyFrom 2 none, .fieldLink RX3 15 "LeafTurner$Numbers" "cells" "[I", .methodLink RX3 37 Lib.Math.min.name, .static Lib.Math.min.name, .initialized "java/lang/Math", .code Lib.Math.min.name Lib.Math.min.code 2 (some .int), .methodLink RX3 31 arraycopyName, .native arraycopyName, .static arraycopyName, .initialized "java/lang/System"] ++ wsX00 ++ wsX30)
def wsX1_init : List Cond := .code yX1_init cX1_init 1 none :: ([.methodLink RX1 3 objectInit, .instanceMethod objectInit, .code objectInit ⟨#[0xb1]⟩ 1 none, .arrayClass .char, .fieldLink RX1 9 "LeafTurner$BookText" "signs" "[C", .fieldLink RX1 15 "LeafTurner$BookText" "length" "I"] ++ wsX10)
def wsX1_add : List Cond := .code yX1_add cX1_add 2 none :: ([.fieldLink RX1 15 "LeafTurner$BookText" "length" "I", .fieldLink RX1 9 "LeafTurner$BookText" "signs" "[C"] ++ wsX10)
def wsX1_has : List Cond := .code yX1_has cX1_has 2 (some .boolean) :: ([.fieldLink RX1 15 "LeafTurner$BookText" "length" "I", .fieldLink RX1 9 "LeafTurner$BookText" "signs" "[C"] ++ wsX10)
def wsX1_isDigit : List Cond := .code yX1_isDigit cX1_isDigit 2 (some .boolean) :: ([.fieldLink RX1 9 "LeafTurner$BookText" "signs" "[C", .methodLink RX1 50 yX1_has, .instanceMethod yX1_has, .selects RX1 yX1_has yX1_has, .initialized RX1, .code yX1_has cX1_has 2 (some .boolean), .fieldLink RX1 15 "LeafTurner$BookText" "length" "I"] ++ wsX10)
def wsX1_digit : List Cond := .code yX1_digit cX1_digit 2 (some .int) :: ([.fieldLink RX1 9 "LeafTurner$BookText" "signs" "[C", .methodLink RX1 50 yX1_has, .instanceMethod yX1_has, .selects RX1 yX1_has yX1_has, .initialized RX1, .code yX1_has cX1_has 2 (some .boolean), .fieldLink RX1 15 "LeafTurner$BookText" "length" "I"] ++ wsX10)
def wsX1_is : List Cond := .code yX1_is cX1_is 3 (some .boolean) :: ([.fieldLink RX1 9 "LeafTurner$BookText" "signs" "[C", .methodLink RX1 50 yX1_has, .instanceMethod yX1_has, .selects RX1 yX1_has yX1_has, .initialized RX1, .code yX1_has cX1_has 2 (some .boolean), .fieldLink RX1 15 "LeafTurner$BookText" "length" "I"] ++ wsX10)
def wsX1_readMark_r1 : List Cond := [Cond.methodLink RX1 32 yX1_is, Cond.instanceMethod yX1_is, Cond.selects RX1 yX1_is yX1_is, Cond.initialized RX1, Cond.code yX1_is cX1_is 3 (some .boolean), Cond.fieldLink RX1 9 "LeafTurner$BookText" "signs" "[C", Cond.methodLink RX1 50 yX1_has, Cond.instanceMethod yX1_has, Cond.selects RX1 yX1_has yX1_has, Cond.code yX1_has cX1_has 2 (some .boolean), Cond.fieldLink RX1 15 "LeafTurner$BookText" "length" "I", Cond.methodLink RX1 44 yX0_printNothingOnLast, Cond.instanceMethod yX0_printNothingOnLast, Cond.selects RX0 yX0_printNothingOnLast yX0_printNothingOnLast, Cond.initialized RX0, Cond.code yX0_printNothingOnLast cX0_printNothingOnLast 1 none, Cond.fieldLink RX0 23 "LeafTurner$Book" "printed" "LLeafTurner$Numbers;", Cond.methodLink RX0 30 yX0_pages, Cond.instanceMethod yX0_pages, Cond.selects RX0 yX0_pages yX0_pages, Cond.code yX0_pages cX0_pages 1 (some .int), Cond.fieldLink RX0 26 "LeafTurner$Book" "leaves" "I", Cond.methodLink RX0 34 yX3_put, Cond.instanceMethod yX3_put]
def wsX1_readMark_r2 : List Cond := [Cond.selects RX3 yX3_put yX3_put, Cond.initialized RX3, Cond.code yX3_put cX3_put 3 none, Cond.fieldLink RX3 15 "LeafTurner$Numbers" "cells" "[I", Cond.methodLink RX3 21 yX3_has, Cond.instanceMethod yX3_has, Cond.selects RX3 yX3_has yX3_has, Cond.code yX3_has cX3_has 2 (some .boolean), Cond.methodLink RX1 47 yX0_printTooMuchOnLast, Cond.instanceMethod yX0_printTooMuchOnLast, Cond.selects RX0 yX0_printTooMuchOnLast yX0_printTooMuchOnLast, Cond.code yX0_printTooMuchOnLast cX0_printTooMuchOnLast 1 none]
def wsX1_readMark : List Cond := .code yX1_readMark cX1_readMark 3 (some .int) :: ((wsX1_readMark_r1 ++ wsX1_readMark_r2) ++ wsX10 ++ wsX00 ++ wsX30)
def wsX1_readInto_r1 : List Cond := [Cond.fieldLink RX1 15 "LeafTurner$BookText" "length" "I", Cond.methodLink RX1 24 yX1_isDigit, Cond.instanceMethod yX1_isDigit, Cond.selects RX1 yX1_isDigit yX1_isDigit, Cond.initialized RX1, Cond.code yX1_isDigit cX1_isDigit 2 (some .boolean), Cond.fieldLink RX1 9 "LeafTurner$BookText" "signs" "[C", Cond.methodLink RX1 50 yX1_has, Cond.instanceMethod yX1_has, Cond.selects RX1 yX1_has yX1_has, Cond.code yX1_has cX1_has 2 (some .boolean), Cond.methodLink RX1 28 yX1_digit, Cond.instanceMethod yX1_digit, Cond.selects RX1 yX1_digit yX1_digit, Cond.code yX1_digit cX1_digit 2 (some .int), Cond.methodLink RX1 32 yX1_is, Cond.instanceMethod yX1_is, Cond.selects RX1 yX1_is yX1_is, Cond.code yX1_is cX1_is 3 (some .boolean), Cond.methodLink RX1 36 yX0_addLeaf, Cond.instanceMethod yX0_addLeaf, Cond.selects RX0 yX0_addLeaf yX0_addLeaf, Cond.initialized RX0, Cond.code yX0_addLeaf cX0_addLeaf 4 none]
def wsX1_readInto_r2 : List Cond := [Cond.fieldLink RX0 26 "LeafTurner$Book" "leaves" "I", Cond.fieldLink RX0 14 "LeafTurner$Book" "weights" "LLeafTurner$Numbers;", Cond.fieldLink RX0 20 "LeafTurner$Book" "strengths" "LLeafTurner$Numbers;", Cond.fieldLink RX0 23 "LeafTurner$Book" "printed" "LLeafTurner$Numbers;", Cond.methodLink RX0 34 yX3_put, Cond.instanceMethod yX3_put, Cond.selects RX3 yX3_put yX3_put, Cond.initialized RX3, Cond.code yX3_put cX3_put 3 none, Cond.fieldLink RX3 15 "LeafTurner$Numbers" "cells" "[I", Cond.methodLink RX3 21 yX3_has, Cond.instanceMethod yX3_has, Cond.selects RX3 yX3_has yX3_has, Cond.code yX3_has cX3_has 2 (some .boolean), Cond.methodLink RX1 40 yX1_readMark, Cond.instanceMethod yX1_readMark, Cond.selects RX1 yX1_readMark yX1_readMark, Cond.code yX1_readMark cX1_readMark 3 (some .int), Cond.methodLink RX1 44 yX0_printNothingOnLast, Cond.instanceMethod yX0_printNothingOnLast, Cond.selects RX0 yX0_printNothingOnLast yX0_printNothingOnLast, Cond.code yX0_printNothingOnLast cX0_printNothingOnLast 1 none, Cond.methodLink RX0 30 yX0_pages, Cond.instanceMethod yX0_pages]
def wsX1_readInto_r3 : List Cond := [Cond.selects RX0 yX0_pages yX0_pages, Cond.code yX0_pages cX0_pages 1 (some .int), Cond.methodLink RX1 47 yX0_printTooMuchOnLast, Cond.instanceMethod yX0_printTooMuchOnLast, Cond.selects RX0 yX0_printTooMuchOnLast yX0_printTooMuchOnLast, Cond.code yX0_printTooMuchOnLast cX0_printTooMuchOnLast 1 none]
def wsX1_readInto : List Cond := .code yX1_readInto cX1_readInto 6 (some .int) :: ((wsX1_readInto_r1 ++ (wsX1_readInto_r2 ++ wsX1_readInto_r3)) ++ wsX00 ++ wsX10 ++ wsX30)
def wsX5_init : List Cond := .code yX5_init cX5_init 1 none :: ([.methodLink RX5 3 objectInit, .instanceMethod objectInit, .code objectInit ⟨#[0xb1]⟩ 1 none, .classLink RX5 9 RX3, .instantiable RX3 1, .initialized RX3, .fieldLink RX5 14 "LeafTurner$Pictures" "pages" "LLeafTurner$Numbers;", .fieldLink RX5 20 "LeafTurner$Pictures" "numbers" "LLeafTurner$Numbers;", .fieldLink RX5 23 "LeafTurner$Pictures" "gutters" "LLeafTurner$Numbers;", .fieldLink RX5 26 "LeafTurner$Pictures" "pairs" "LLeafTurner$Numbers;", .fieldLink RX5 29 "LeafTurner$Pictures" "size" "I", .methodLink RX5 11 yX3_init, .instanceMethod yX3_init, .code yX3_init cX3_init 2 none, .methodLink RX3 3 objectInit, .methodLink RX3 9 Lib.Math.max.name, .static Lib.Math.max.name, .initialized "java/lang/Math", .code Lib.Math.max.name Lib.Math.max.code 2 (some .int), .arrayClass .int, .fieldLink RX3 15 "LeafTurner$Numbers" "cells" "[I"] ++ wsX30 ++ wsX50)
def wsX6_init_r1 : List Cond := [Cond.methodLink RX6 3 objectInit, Cond.instanceMethod objectInit, Cond.code objectInit ⟨#[0xb1]⟩ 1 none, Cond.classLink RX6 9 RX0, Cond.instantiable RX0 4, Cond.initialized RX0, Cond.fieldLink RX6 12 "LeafTurner$State" "book" "LLeafTurner$Book;", Cond.classLink RX6 18 RX5, Cond.instantiable RX5 5, Cond.initialized RX5, Cond.fieldLink RX6 21 "LeafTurner$State" "pictures" "LLeafTurner$Pictures;", Cond.classLink RX6 25 RX3, Cond.instantiable RX3 1, Cond.initialized RX3, Cond.fieldLink RX6 34 "LeafTurner$State" "settings" "LLeafTurner$Numbers;", Cond.fieldLink RX6 42 "LeafTurner$State" "suction" "I", Cond.methodLink RX6 11 yX0_init, Cond.instanceMethod yX0_init, Cond.code yX0_init cX0_init 1 none, Cond.methodLink RX0 3 objectInit, Cond.classLink RX0 9 RX3, Cond.fieldLink RX0 14 "LeafTurner$Book" "weights" "LLeafTurner$Numbers;", Cond.fieldLink RX0 20 "LeafTurner$Book" "strengths" "LLeafTurner$Numbers;", Cond.fieldLink RX0 23 "LeafTurner$Book" "printed" "LLeafTurner$Numbers;"]
def wsX6_init_r2 : List Cond := [Cond.fieldLink RX0 26 "LeafTurner$Book" "leaves" "I", Cond.methodLink RX0 11 yX3_init, Cond.instanceMethod yX3_init, Cond.code yX3_init cX3_init 2 none, Cond.methodLink RX3 3 objectInit, Cond.methodLink RX3 9 Lib.Math.max.name, Cond.static Lib.Math.max.name, Cond.initialized "java/lang/Math", Cond.code Lib.Math.max.name Lib.Math.max.code 2 (some .int), Cond.arrayClass .int, Cond.fieldLink RX3 15 "LeafTurner$Numbers" "cells" "[I", Cond.methodLink RX6 20 yX5_init, Cond.instanceMethod yX5_init, Cond.code yX5_init cX5_init 1 none, Cond.methodLink RX5 3 objectInit, Cond.classLink RX5 9 RX3, Cond.fieldLink RX5 14 "LeafTurner$Pictures" "pages" "LLeafTurner$Numbers;", Cond.fieldLink RX5 20 "LeafTurner$Pictures" "numbers" "LLeafTurner$Numbers;", Cond.fieldLink RX5 23 "LeafTurner$Pictures" "gutters" "LLeafTurner$Numbers;", Cond.fieldLink RX5 26 "LeafTurner$Pictures" "pairs" "LLeafTurner$Numbers;", Cond.fieldLink RX5 29 "LeafTurner$Pictures" "size" "I", Cond.methodLink RX5 11 yX3_init, Cond.methodLink RX6 31 yX3_init, Cond.methodLink RX6 38 yX3_put]
def wsX6_init_r3 : List Cond := [Cond.instanceMethod yX3_put, Cond.selects RX3 yX3_put yX3_put, Cond.code yX3_put cX3_put 3 none, Cond.methodLink RX3 21 yX3_has, Cond.instanceMethod yX3_has, Cond.selects RX3 yX3_has yX3_has, Cond.code yX3_has cX3_has 2 (some .boolean)]
def wsX6_init : List Cond := .code yX6_init cX6_init 2 none :: ((wsX6_init_r1 ++ (wsX6_init_r2 ++ wsX6_init_r3)) ++ wsX00 ++ wsX60 ++ wsX50 ++ wsX30)
def wsX2_init_r1 : List Cond := [Cond.methodLink RX2 3 objectInit, Cond.instanceMethod objectInit, Cond.code objectInit ⟨#[0xb1]⟩ 1 none, Cond.classLink RX2 9 RX6, Cond.fieldLink RX2 11 "LeafTurner$History" "states" "[LLeafTurner$State;", Cond.instantiable RX6 10, Cond.initialized RX6, Cond.fieldLink RX2 18 "LeafTurner$History" "size" "I", Cond.methodLink RX2 17 yX6_init, Cond.instanceMethod yX6_init, Cond.code yX6_init cX6_init 2 none, Cond.methodLink RX6 3 objectInit, Cond.classLink RX6 9 RX0, Cond.instantiable RX0 4, Cond.initialized RX0, Cond.fieldLink RX6 12 "LeafTurner$State" "book" "LLeafTurner$Book;", Cond.classLink RX6 18 RX5, Cond.instantiable RX5 5, Cond.initialized RX5, Cond.fieldLink RX6 21 "LeafTurner$State" "pictures" "LLeafTurner$Pictures;", Cond.classLink RX6 25 RX3, Cond.instantiable RX3 1, Cond.initialized RX3, Cond.fieldLink RX6 34 "LeafTurner$State" "settings" "LLeafTurner$Numbers;"]
def wsX2_init_r2 : List Cond := [Cond.fieldLink RX6 42 "LeafTurner$State" "suction" "I", Cond.methodLink RX6 11 yX0_init, Cond.instanceMethod yX0_init, Cond.code yX0_init cX0_init 1 none, Cond.methodLink RX0 3 objectInit, Cond.classLink RX0 9 RX3, Cond.fieldLink RX0 14 "LeafTurner$Book" "weights" "LLeafTurner$Numbers;", Cond.fieldLink RX0 20 "LeafTurner$Book" "strengths" "LLeafTurner$Numbers;", Cond.fieldLink RX0 23 "LeafTurner$Book" "printed" "LLeafTurner$Numbers;", Cond.fieldLink RX0 26 "LeafTurner$Book" "leaves" "I", Cond.methodLink RX0 11 yX3_init, Cond.instanceMethod yX3_init, Cond.code yX3_init cX3_init 2 none, Cond.methodLink RX3 3 objectInit, Cond.methodLink RX3 9 Lib.Math.max.name, Cond.static Lib.Math.max.name, Cond.initialized "java/lang/Math", Cond.code Lib.Math.max.name Lib.Math.max.code 2 (some .int), Cond.arrayClass .int, Cond.fieldLink RX3 15 "LeafTurner$Numbers" "cells" "[I", Cond.methodLink RX6 20 yX5_init, Cond.instanceMethod yX5_init, Cond.code yX5_init cX5_init 1 none, Cond.methodLink RX5 3 objectInit]
def wsX2_init_r3 : List Cond := [Cond.classLink RX5 9 RX3, Cond.fieldLink RX5 14 "LeafTurner$Pictures" "pages" "LLeafTurner$Numbers;", Cond.fieldLink RX5 20 "LeafTurner$Pictures" "numbers" "LLeafTurner$Numbers;", Cond.fieldLink RX5 23 "LeafTurner$Pictures" "gutters" "LLeafTurner$Numbers;", Cond.fieldLink RX5 26 "LeafTurner$Pictures" "pairs" "LLeafTurner$Numbers;", Cond.fieldLink RX5 29 "LeafTurner$Pictures" "size" "I", Cond.methodLink RX5 11 yX3_init, Cond.methodLink RX6 31 yX3_init, Cond.methodLink RX6 38 yX3_put, Cond.instanceMethod yX3_put, Cond.selects RX3 yX3_put yX3_put, Cond.code yX3_put cX3_put 3 none, Cond.methodLink RX3 21 yX3_has, Cond.instanceMethod yX3_has, Cond.selects RX3 yX3_has yX3_has, Cond.code yX3_has cX3_has 2 (some .boolean)]
def wsX2_init : List Cond := .code yX2_init cX2_init 2 none :: ((wsX2_init_r1 ++ (wsX2_init_r2 ++ wsX2_init_r3)) ++ wsX20 ++ wsX60 ++ wsX00 ++ wsX50 ++ wsX30)
def wsX2_dropOldest : List Cond := .code yX2_dropOldest cX2_dropOldest 3 none :: ([.fieldLink RX2 11 "LeafTurner$History" "states" "[LLeafTurner$State;", .fieldLink RX2 18 "LeafTurner$History" "size" "I"] ++ wsX20)
def wsX5_copyFrom : List Cond := .code yX5_copyFrom cX5_copyFrom 2 none :: ([.fieldLink RX5 14 "LeafTurner$Pictures" "pages" "LLeafTurner$Numbers;", .fieldLink RX5 20 "LeafTurner$Pictures" "numbers" "LLeafTurner$Numbers;", .fieldLink RX5 23 "LeafTurner$Pictures" "gutters" "LLeafTurner$Numbers;", .fieldLink RX5 26 "LeafTurner$Pictures" "pairs" "LLeafTurner$Numbers;", .fieldLink RX5 29 "LeafTurner$Pictures" "size" "I", .methodLink RX5 52 yX3_copyFrom, .instanceMethod yX3_copyFrom, .selects RX3 yX3_copyFrom yX3_copyFrom, .initialized RX3, .code yX3_copyFrom cX3_copyFrom 2 none, .fieldLink RX3 15 "LeafTurner$Numbers" "cells" "[I", .methodLink RX3 37 Lib.Math.min.name, .static Lib.Math.min.name, .initialized "java/lang/Math", .code Lib.Math.min.name Lib.Math.min.code 2 (some .int), .methodLink RX3 31 arraycopyName, .native arraycopyName, .static arraycopyName, .initialized "java/lang/System"] ++ wsX50 ++ wsX30)
def wsX6_copyFrom_r1 : List Cond := [Cond.fieldLink RX6 12 "LeafTurner$State" "book" "LLeafTurner$Book;", Cond.fieldLink RX6 21 "LeafTurner$State" "pictures" "LLeafTurner$Pictures;", Cond.fieldLink RX6 34 "LeafTurner$State" "settings" "LLeafTurner$Numbers;", Cond.fieldLink RX6 56 "LeafTurner$State" "left" "I", Cond.fieldLink RX6 42 "LeafTurner$State" "suction" "I", Cond.fieldLink RX6 59 "LeafTurner$State" "turnings" "I", Cond.fieldLink RX6 62 "LeafTurner$State" "turningsOfMore" "I", Cond.fieldLink RX6 65 "LeafTurner$State" "turningsOfNone" "I", Cond.fieldLink RX6 68 "LeafTurner$State" "singlesInRow" "I", Cond.fieldLink RX6 71 "LeafTurner$State" "pairs" "I", Cond.methodLink RX6 46 yX0_copyFrom, Cond.instanceMethod yX0_copyFrom, Cond.selects RX0 yX0_copyFrom yX0_copyFrom, Cond.initialized RX0, Cond.code yX0_copyFrom cX0_copyFrom 2 none, Cond.fieldLink RX0 14 "LeafTurner$Book" "weights" "LLeafTurner$Numbers;", Cond.fieldLink RX0 20 "LeafTurner$Book" "strengths" "LLeafTurner$Numbers;", Cond.fieldLink RX0 23 "LeafTurner$Book" "printed" "LLeafTurner$Numbers;", Cond.fieldLink RX0 26 "LeafTurner$Book" "leaves" "I", Cond.methodLink RX0 44 yX3_copyFrom, Cond.instanceMethod yX3_copyFrom, Cond.selects RX3 yX3_copyFrom yX3_copyFrom, Cond.initialized RX3, Cond.code yX3_copyFrom cX3_copyFrom 2 none]
def wsX6_copyFrom_r2 : List Cond := [Cond.fieldLink RX3 15 "LeafTurner$Numbers" "cells" "[I", Cond.methodLink RX3 37 Lib.Math.min.name, Cond.static Lib.Math.min.name, Cond.initialized "java/lang/Math", Cond.code Lib.Math.min.name Lib.Math.min.code 2 (some .int), Cond.methodLink RX3 31 arraycopyName, Cond.native arraycopyName, Cond.static arraycopyName, Cond.initialized "java/lang/System", Cond.methodLink RX6 50 yX5_copyFrom, Cond.instanceMethod yX5_copyFrom, Cond.selects RX5 yX5_copyFrom yX5_copyFrom, Cond.initialized RX5, Cond.code yX5_copyFrom cX5_copyFrom 2 none, Cond.fieldLink RX5 14 "LeafTurner$Pictures" "pages" "LLeafTurner$Numbers;", Cond.fieldLink RX5 20 "LeafTurner$Pictures" "numbers" "LLeafTurner$Numbers;", Cond.fieldLink RX5 23 "LeafTurner$Pictures" "gutters" "LLeafTurner$Numbers;", Cond.fieldLink RX5 26 "LeafTurner$Pictures" "pairs" "LLeafTurner$Numbers;", Cond.fieldLink RX5 29 "LeafTurner$Pictures" "size" "I", Cond.methodLink RX5 52 yX3_copyFrom, Cond.methodLink RX6 53 yX3_copyFrom]
def wsX6_copyFrom : List Cond := .code yX6_copyFrom cX6_copyFrom 2 none :: ((wsX6_copyFrom_r1 ++ wsX6_copyFrom_r2) ++ wsX60 ++ wsX00 ++ wsX30 ++ wsX50)
def wsX2_record_r1 : List Cond := [Cond.fieldLink RX2 18 "LeafTurner$History" "size" "I", Cond.fieldLink RX2 11 "LeafTurner$History" "states" "[LLeafTurner$State;", Cond.methodLink RX2 22 yX2_dropOldest, Cond.instanceMethod yX2_dropOldest, Cond.selects RX2 yX2_dropOldest yX2_dropOldest, Cond.initialized RX2, Cond.code yX2_dropOldest cX2_dropOldest 3 none, Cond.methodLink RX2 25 yX6_copyFrom, Cond.instanceMethod yX6_copyFrom, Cond.selects RX6 yX6_copyFrom yX6_copyFrom, Cond.initialized RX6, Cond.code yX6_copyFrom cX6_copyFrom 2 none, Cond.fieldLink RX6 12 "LeafTurner$State" "book" "LLeafTurner$Book;", Cond.fieldLink RX6 21 "LeafTurner$State" "pictures" "LLeafTurner$Pictures;", Cond.fieldLink RX6 34 "LeafTurner$State" "settings" "LLeafTurner$Numbers;", Cond.fieldLink RX6 56 "LeafTurner$State" "left" "I", Cond.fieldLink RX6 42 "LeafTurner$State" "suction" "I", Cond.fieldLink RX6 59 "LeafTurner$State" "turnings" "I", Cond.fieldLink RX6 62 "LeafTurner$State" "turningsOfMore" "I", Cond.fieldLink RX6 65 "LeafTurner$State" "turningsOfNone" "I", Cond.fieldLink RX6 68 "LeafTurner$State" "singlesInRow" "I", Cond.fieldLink RX6 71 "LeafTurner$State" "pairs" "I", Cond.methodLink RX6 46 yX0_copyFrom, Cond.instanceMethod yX0_copyFrom]
def wsX2_record_r2 : List Cond := [Cond.selects RX0 yX0_copyFrom yX0_copyFrom, Cond.initialized RX0, Cond.code yX0_copyFrom cX0_copyFrom 2 none, Cond.fieldLink RX0 14 "LeafTurner$Book" "weights" "LLeafTurner$Numbers;", Cond.fieldLink RX0 20 "LeafTurner$Book" "strengths" "LLeafTurner$Numbers;", Cond.fieldLink RX0 23 "LeafTurner$Book" "printed" "LLeafTurner$Numbers;", Cond.fieldLink RX0 26 "LeafTurner$Book" "leaves" "I", Cond.methodLink RX0 44 yX3_copyFrom, Cond.instanceMethod yX3_copyFrom, Cond.selects RX3 yX3_copyFrom yX3_copyFrom, Cond.initialized RX3, Cond.code yX3_copyFrom cX3_copyFrom 2 none, Cond.fieldLink RX3 15 "LeafTurner$Numbers" "cells" "[I", Cond.methodLink RX3 37 Lib.Math.min.name, Cond.static Lib.Math.min.name, Cond.initialized "java/lang/Math", Cond.code Lib.Math.min.name Lib.Math.min.code 2 (some .int), Cond.methodLink RX3 31 arraycopyName, Cond.native arraycopyName, Cond.static arraycopyName, Cond.initialized "java/lang/System", Cond.methodLink RX6 50 yX5_copyFrom, Cond.instanceMethod yX5_copyFrom, Cond.selects RX5 yX5_copyFrom yX5_copyFrom]
def wsX2_record_r3 : List Cond := [Cond.initialized RX5, Cond.code yX5_copyFrom cX5_copyFrom 2 none, Cond.fieldLink RX5 14 "LeafTurner$Pictures" "pages" "LLeafTurner$Numbers;", Cond.fieldLink RX5 20 "LeafTurner$Pictures" "numbers" "LLeafTurner$Numbers;", Cond.fieldLink RX5 23 "LeafTurner$Pictures" "gutters" "LLeafTurner$Numbers;", Cond.fieldLink RX5 26 "LeafTurner$Pictures" "pairs" "LLeafTurner$Numbers;", Cond.fieldLink RX5 29 "LeafTurner$Pictures" "size" "I", Cond.methodLink RX5 52 yX3_copyFrom, Cond.methodLink RX6 53 yX3_copyFrom]
def wsX2_record : List Cond := .code yX2_record cX2_record 2 none :: ((wsX2_record_r1 ++ (wsX2_record_r2 ++ wsX2_record_r3)) ++ wsX20 ++ wsX60 ++ wsX00 ++ wsX30 ++ wsX50)
def wsX2_takeLatestInto_r1 : List Cond := [Cond.fieldLink RX2 18 "LeafTurner$History" "size" "I", Cond.fieldLink RX2 11 "LeafTurner$History" "states" "[LLeafTurner$State;", Cond.methodLink RX2 25 yX6_copyFrom, Cond.instanceMethod yX6_copyFrom, Cond.selects RX6 yX6_copyFrom yX6_copyFrom, Cond.initialized RX6, Cond.code yX6_copyFrom cX6_copyFrom 2 none, Cond.fieldLink RX6 12 "LeafTurner$State" "book" "LLeafTurner$Book;", Cond.fieldLink RX6 21 "LeafTurner$State" "pictures" "LLeafTurner$Pictures;", Cond.fieldLink RX6 34 "LeafTurner$State" "settings" "LLeafTurner$Numbers;", Cond.fieldLink RX6 56 "LeafTurner$State" "left" "I", Cond.fieldLink RX6 42 "LeafTurner$State" "suction" "I", Cond.fieldLink RX6 59 "LeafTurner$State" "turnings" "I", Cond.fieldLink RX6 62 "LeafTurner$State" "turningsOfMore" "I", Cond.fieldLink RX6 65 "LeafTurner$State" "turningsOfNone" "I", Cond.fieldLink RX6 68 "LeafTurner$State" "singlesInRow" "I", Cond.fieldLink RX6 71 "LeafTurner$State" "pairs" "I", Cond.methodLink RX6 46 yX0_copyFrom, Cond.instanceMethod yX0_copyFrom, Cond.selects RX0 yX0_copyFrom yX0_copyFrom, Cond.initialized RX0, Cond.code yX0_copyFrom cX0_copyFrom 2 none, Cond.fieldLink RX0 14 "LeafTurner$Book" "weights" "LLeafTurner$Numbers;", Cond.fieldLink RX0 20 "LeafTurner$Book" "strengths" "LLeafTurner$Numbers;"]
def wsX2_takeLatestInto_r2 : List Cond := [Cond.fieldLink RX0 23 "LeafTurner$Book" "printed" "LLeafTurner$Numbers;", Cond.fieldLink RX0 26 "LeafTurner$Book" "leaves" "I", Cond.methodLink RX0 44 yX3_copyFrom, Cond.instanceMethod yX3_copyFrom, Cond.selects RX3 yX3_copyFrom yX3_copyFrom, Cond.initialized RX3, Cond.code yX3_copyFrom cX3_copyFrom 2 none, Cond.fieldLink RX3 15 "LeafTurner$Numbers" "cells" "[I", Cond.methodLink RX3 37 Lib.Math.min.name, Cond.static Lib.Math.min.name, Cond.initialized "java/lang/Math", Cond.code Lib.Math.min.name Lib.Math.min.code 2 (some .int), Cond.methodLink RX3 31 arraycopyName, Cond.native arraycopyName, Cond.static arraycopyName, Cond.initialized "java/lang/System", Cond.methodLink RX6 50 yX5_copyFrom, Cond.instanceMethod yX5_copyFrom, Cond.selects RX5 yX5_copyFrom yX5_copyFrom, Cond.initialized RX5, Cond.code yX5_copyFrom cX5_copyFrom 2 none, Cond.fieldLink RX5 14 "LeafTurner$Pictures" "pages" "LLeafTurner$Numbers;", Cond.fieldLink RX5 20 "LeafTurner$Pictures" "numbers" "LLeafTurner$Numbers;", Cond.fieldLink RX5 23 "LeafTurner$Pictures" "gutters" "LLeafTurner$Numbers;"]
def wsX2_takeLatestInto_r3 : List Cond := [Cond.fieldLink RX5 26 "LeafTurner$Pictures" "pairs" "LLeafTurner$Numbers;", Cond.fieldLink RX5 29 "LeafTurner$Pictures" "size" "I", Cond.methodLink RX5 52 yX3_copyFrom, Cond.methodLink RX6 53 yX3_copyFrom]
def wsX2_takeLatestInto : List Cond := .code yX2_takeLatestInto cX2_takeLatestInto 3 none :: ((wsX2_takeLatestInto_r1 ++ (wsX2_takeLatestInto_r2 ++ wsX2_takeLatestInto_r3)) ++ wsX20 ++ wsX60 ++ wsX00 ++ wsX30 ++ wsX50)
def wsX3_at : List Cond := .code yX3_at cX3_at 2 (some .int) :: ([.fieldLink RX3 15 "LeafTurner$Numbers" "cells" "[I", .methodLink RX3 21 yX3_has, .instanceMethod yX3_has, .selects RX3 yX3_has yX3_has, .initialized RX3, .code yX3_has cX3_has 2 (some .boolean)] ++ wsX30)
def wsJ7_fill_53178 : List Cond := .code yJ7_fill_53178 cJ7_fill_53178 4 none :: ([])
def wsX3_putAll : List Cond := .code yX3_putAll cX3_putAll 2 none :: ([.fieldLink RX3 15 "LeafTurner$Numbers" "cells" "[I", .methodLink RX3 25 yJ7_fill_53178, .static yJ7_fill_53178, .initialized RJ7, .code yJ7_fill_53178 cJ7_fill_53178 4 none] ++ wsX30)
def wsX3_removeAt : List Cond := .code yX3_removeAt cX3_removeAt 2 none :: ([.fieldLink RX3 15 "LeafTurner$Numbers" "cells" "[I", .methodLink RX3 31 arraycopyName, .native arraycopyName, .static arraycopyName, .initialized "java/lang/System", .methodLink RX3 21 yX3_has, .instanceMethod yX3_has, .selects RX3 yX3_has yX3_has, .initialized RX3, .code yX3_has cX3_has 2 (some .boolean)] ++ wsX30)
def wsX4_init : List Cond := .code yX4_init cX4_init 1 none :: ([.methodLink RX4 3 objectInit, .instanceMethod objectInit, .code objectInit ⟨#[0xb1]⟩ 1 none, .classLink RX4 9 RX3, .instantiable RX3 1, .initialized RX3, .fieldLink RX4 14 "LeafTurner$PageSet" "guesses" "LLeafTurner$Numbers;", .fieldLink RX4 20 "LeafTurner$PageSet" "chosen" "LLeafTurner$Numbers;", .methodLink RX4 11 yX3_init, .instanceMethod yX3_init, .code yX3_init cX3_init 2 none, .methodLink RX3 3 objectInit, .methodLink RX3 9 Lib.Math.max.name, .static Lib.Math.max.name, .initialized "java/lang/Math", .code Lib.Math.max.name Lib.Math.max.code 2 (some .int), .arrayClass .int, .fieldLink RX3 15 "LeafTurner$Numbers" "cells" "[I"] ++ wsX30 ++ wsX40)
def wsX5_isGood : List Cond := .code yX5_isGood cX5_isGood 2 (some .boolean) :: ([.fieldLink RX5 23 "LeafTurner$Pictures" "gutters" "LLeafTurner$Numbers;", .methodLink RX5 33 yX3_at, .instanceMethod yX3_at, .selects RX3 yX3_at yX3_at, .initialized RX3, .code yX3_at cX3_at 2 (some .int), .fieldLink RX3 15 "LeafTurner$Numbers" "cells" "[I", .methodLink RX3 21 yX3_has, .instanceMethod yX3_has, .selects RX3 yX3_has yX3_has, .code yX3_has cX3_has 2 (some .boolean)] ++ wsX50 ++ wsX30)
def wsX4_guessOf_r1 : List Cond := [Cond.methodLink RX4 67 yX3_at, Cond.instanceMethod yX3_at, Cond.selects RX3 yX3_at yX3_at, Cond.initialized RX3, Cond.code yX3_at cX3_at 2 (some .int), Cond.fieldLink RX3 15 "LeafTurner$Numbers" "cells" "[I", Cond.methodLink RX3 21 yX3_has, Cond.instanceMethod yX3_has, Cond.selects RX3 yX3_has yX3_has, Cond.code yX3_has cX3_has 2 (some .boolean), Cond.methodLink RX4 71 yX5_isGood, Cond.instanceMethod yX5_isGood, Cond.selects RX5 yX5_isGood yX5_isGood, Cond.initialized RX5, Cond.code yX5_isGood cX5_isGood 2 (some .boolean), Cond.fieldLink RX5 23 "LeafTurner$Pictures" "gutters" "LLeafTurner$Numbers;", Cond.methodLink RX5 33 yX3_at, Cond.methodLink RX4 78 yX0_hasPage, Cond.instanceMethod yX0_hasPage, Cond.selects RX0 yX0_hasPage yX0_hasPage, Cond.initialized RX0, Cond.code yX0_hasPage cX0_hasPage 2 (some .boolean), Cond.methodLink RX0 30 yX0_pages, Cond.instanceMethod yX0_pages]
def wsX4_guessOf_r2 : List Cond := [Cond.selects RX0 yX0_pages yX0_pages, Cond.code yX0_pages cX0_pages 1 (some .int), Cond.fieldLink RX0 26 "LeafTurner$Book" "leaves" "I"]
def wsX4_guessOf : List Cond := .code yX4_guessOf cX4_guessOf 6 (some .int) :: ((wsX4_guessOf_r1 ++ wsX4_guessOf_r2) ++ wsX60 ++ wsX50 ++ wsX30 ++ wsX00)
def wsX4_choose : List Cond := .code yX4_choose cX4_choose 5 none :: ([.fieldLink RX4 20 "LeafTurner$PageSet" "chosen" "LLeafTurner$Numbers;", .methodLink RX4 67 yX3_at, .instanceMethod yX3_at, .selects RX3 yX3_at yX3_at, .initialized RX3, .code yX3_at cX3_at 2 (some .int), .fieldLink RX3 15 "LeafTurner$Numbers" "cells" "[I", .methodLink RX3 21 yX3_has, .instanceMethod yX3_has, .selects RX3 yX3_has yX3_has, .code yX3_has cX3_has 2 (some .boolean), .methodLink RX4 71 yX5_isGood, .instanceMethod yX5_isGood, .selects RX5 yX5_isGood yX5_isGood, .initialized RX5, .code yX5_isGood cX5_isGood 2 (some .boolean), .fieldLink RX5 23 "LeafTurner$Pictures" "gutters" "LLeafTurner$Numbers;", .methodLink RX5 33 yX3_at, .methodLink RX4 56 yX3_put, .instanceMethod yX3_put, .selects RX3 yX3_put yX3_put, .code yX3_put cX3_put 3 none] ++ wsX40 ++ wsX30 ++ wsX50)
def wsX4_makeFor_r1 : List Cond := [Cond.fieldLink RX4 35 "LeafTurner$PageSet" "pictures" "I", Cond.fieldLink RX4 47 "LeafTurner$PageSet" "pages" "I", Cond.fieldLink RX4 20 "LeafTurner$PageSet" "chosen" "LLeafTurner$Numbers;", Cond.fieldLink RX4 14 "LeafTurner$PageSet" "guesses" "LLeafTurner$Numbers;", Cond.methodLink RX4 41 yX0_pages, Cond.instanceMethod yX0_pages, Cond.selects RX0 yX0_pages yX0_pages, Cond.initialized RX0, Cond.code yX0_pages cX0_pages 1 (some .int), Cond.fieldLink RX0 26 "LeafTurner$Book" "leaves" "I", Cond.methodLink RX4 49 yX3_putAll, Cond.instanceMethod yX3_putAll, Cond.selects RX3 yX3_putAll yX3_putAll, Cond.initialized RX3, Cond.code yX3_putAll cX3_putAll 2 none, Cond.fieldLink RX3 15 "LeafTurner$Numbers" "cells" "[I", Cond.methodLink RX3 25 yJ7_fill_53178, Cond.static yJ7_fill_53178, Cond.initialized RJ7, Cond.code yJ7_fill_53178 cJ7_fill_53178 4 none, Cond.methodLink RX4 52 yX4_guessOf, Cond.instanceMethod yX4_guessOf, Cond.selects RX4 yX4_guessOf yX4_guessOf, Cond.initialized RX4]
def wsX4_makeFor_r2 : List Cond := [Cond.code yX4_guessOf cX4_guessOf 6 (some .int), Cond.methodLink RX4 67 yX3_at, Cond.instanceMethod yX3_at, Cond.selects RX3 yX3_at yX3_at, Cond.code yX3_at cX3_at 2 (some .int), Cond.methodLink RX3 21 yX3_has, Cond.instanceMethod yX3_has, Cond.selects RX3 yX3_has yX3_has, Cond.code yX3_has cX3_has 2 (some .boolean), Cond.methodLink RX4 71 yX5_isGood, Cond.instanceMethod yX5_isGood, Cond.selects RX5 yX5_isGood yX5_isGood, Cond.initialized RX5, Cond.code yX5_isGood cX5_isGood 2 (some .boolean), Cond.fieldLink RX5 23 "LeafTurner$Pictures" "gutters" "LLeafTurner$Numbers;", Cond.methodLink RX5 33 yX3_at, Cond.methodLink RX4 78 yX0_hasPage, Cond.instanceMethod yX0_hasPage, Cond.selects RX0 yX0_hasPage yX0_hasPage, Cond.code yX0_hasPage cX0_hasPage 2 (some .boolean), Cond.methodLink RX0 30 yX0_pages, Cond.methodLink RX4 56 yX3_put, Cond.instanceMethod yX3_put, Cond.selects RX3 yX3_put yX3_put]
def wsX4_makeFor_r3 : List Cond := [Cond.code yX3_put cX3_put 3 none, Cond.methodLink RX4 60 yX4_choose, Cond.instanceMethod yX4_choose, Cond.selects RX4 yX4_choose yX4_choose, Cond.code yX4_choose cX4_choose 5 none]
def wsX4_makeFor : List Cond := .code yX4_makeFor cX4_makeFor 5 none :: ((wsX4_makeFor_r1 ++ (wsX4_makeFor_r2 ++ wsX4_makeFor_r3)) ++ wsX60 ++ wsX50 ++ wsX40 ++ wsX00 ++ wsX30)
def wsX4_isSpare : List Cond := .code yX4_isSpare cX4_isSpare 3 (some .boolean) :: ([.fieldLink RX4 14 "LeafTurner$PageSet" "guesses" "LLeafTurner$Numbers;", .fieldLink RX4 20 "LeafTurner$PageSet" "chosen" "LLeafTurner$Numbers;", .methodLink RX4 67 yX3_at, .instanceMethod yX3_at, .selects RX3 yX3_at yX3_at, .initialized RX3, .code yX3_at cX3_at 2 (some .int), .fieldLink RX3 15 "LeafTurner$Numbers" "cells" "[I", .methodLink RX3 21 yX3_has, .instanceMethod yX3_has, .selects RX3 yX3_has yX3_has, .code yX3_has cX3_has 2 (some .boolean)] ++ wsX40 ++ wsX30)
def wsX4_isDoubtful : List Cond := .code yX4_isDoubtful cX4_isDoubtful 4 (some .boolean) :: ([.fieldLink RX4 20 "LeafTurner$PageSet" "chosen" "LLeafTurner$Numbers;", .methodLink RX4 67 yX3_at, .instanceMethod yX3_at, .selects RX3 yX3_at yX3_at, .initialized RX3, .code yX3_at cX3_at 2 (some .int), .fieldLink RX3 15 "LeafTurner$Numbers" "cells" "[I", .methodLink RX3 21 yX3_has, .instanceMethod yX3_has, .selects RX3 yX3_has yX3_has, .code yX3_has cX3_has 2 (some .boolean)] ++ wsX40 ++ wsX50 ++ wsX30)
def wsX4_lackingAt : List Cond := .code yX4_lackingAt cX4_lackingAt 4 (some .int) :: ([.fieldLink RX4 47 "LeafTurner$PageSet" "pages" "I", .fieldLink RX4 20 "LeafTurner$PageSet" "chosen" "LLeafTurner$Numbers;", .methodLink RX4 67 yX3_at, .instanceMethod yX3_at, .selects RX3 yX3_at yX3_at, .initialized RX3, .code yX3_at cX3_at 2 (some .int), .fieldLink RX3 15 "LeafTurner$Numbers" "cells" "[I", .methodLink RX3 21 yX3_has, .instanceMethod yX3_has, .selects RX3 yX3_has yX3_has, .code yX3_has cX3_has 2 (some .boolean)] ++ wsX40 ++ wsX30)
def wsX4_howManyLack : List Cond := .code yX4_howManyLack cX4_howManyLack 3 (some .int) :: ([.fieldLink RX4 47 "LeafTurner$PageSet" "pages" "I", .fieldLink RX4 20 "LeafTurner$PageSet" "chosen" "LLeafTurner$Numbers;", .methodLink RX4 67 yX3_at, .instanceMethod yX3_at, .selects RX3 yX3_at yX3_at, .initialized RX3, .code yX3_at cX3_at 2 (some .int), .fieldLink RX3 15 "LeafTurner$Numbers" "cells" "[I", .methodLink RX3 21 yX3_has, .instanceMethod yX3_has, .selects RX3 yX3_has yX3_has, .code yX3_has cX3_has 2 (some .boolean)] ++ wsX40 ++ wsX30)
def wsX4_howManyDoubtful : List Cond := .code yX4_howManyDoubtful cX4_howManyDoubtful 4 (some .int) :: ([.fieldLink RX4 47 "LeafTurner$PageSet" "pages" "I", .methodLink RX4 83 yX4_isDoubtful, .instanceMethod yX4_isDoubtful, .selects RX4 yX4_isDoubtful yX4_isDoubtful, .initialized RX4, .code yX4_isDoubtful cX4_isDoubtful 4 (some .boolean), .fieldLink RX4 20 "LeafTurner$PageSet" "chosen" "LLeafTurner$Numbers;", .methodLink RX4 67 yX3_at, .instanceMethod yX3_at, .selects RX3 yX3_at yX3_at, .initialized RX3, .code yX3_at cX3_at 2 (some .int), .fieldLink RX3 15 "LeafTurner$Numbers" "cells" "[I", .methodLink RX3 21 yX3_has, .instanceMethod yX3_has, .selects RX3 yX3_has yX3_has, .code yX3_has cX3_has 2 (some .boolean)] ++ wsX40 ++ wsX50 ++ wsX30)
def wsX4_howManySpare : List Cond := .code yX4_howManySpare cX4_howManySpare 3 (some .int) :: ([.fieldLink RX4 35 "LeafTurner$PageSet" "pictures" "I", .methodLink RX4 87 yX4_isSpare, .instanceMethod yX4_isSpare, .selects RX4 yX4_isSpare yX4_isSpare, .initialized RX4, .code yX4_isSpare cX4_isSpare 3 (some .boolean), .fieldLink RX4 14 "LeafTurner$PageSet" "guesses" "LLeafTurner$Numbers;", .fieldLink RX4 20 "LeafTurner$PageSet" "chosen" "LLeafTurner$Numbers;", .methodLink RX4 67 yX3_at, .instanceMethod yX3_at, .selects RX3 yX3_at yX3_at, .initialized RX3, .code yX3_at cX3_at 2 (some .int), .fieldLink RX3 15 "LeafTurner$Numbers" "cells" "[I", .methodLink RX3 21 yX3_has, .instanceMethod yX3_has, .selects RX3 yX3_has yX3_has, .code yX3_has cX3_has 2 (some .boolean)] ++ wsX40 ++ wsX30)
def wsX4_howManyNotGuessed : List Cond := .code yX4_howManyNotGuessed cX4_howManyNotGuessed 3 (some .int) :: ([.fieldLink RX4 35 "LeafTurner$PageSet" "pictures" "I", .fieldLink RX4 14 "LeafTurner$PageSet" "guesses" "LLeafTurner$Numbers;", .methodLink RX4 67 yX3_at, .instanceMethod yX3_at, .selects RX3 yX3_at yX3_at, .initialized RX3, .code yX3_at cX3_at 2 (some .int), .fieldLink RX3 15 "LeafTurner$Numbers" "cells" "[I", .methodLink RX3 21 yX3_has, .instanceMethod yX3_has, .selects RX3 yX3_has yX3_has, .code yX3_has cX3_has 2 (some .boolean)] ++ wsX40 ++ wsX30)
def wsX5_has : List Cond := .code yX5_has cX5_has 2 (some .boolean) :: ([.fieldLink RX5 29 "LeafTurner$Pictures" "size" "I"] ++ wsX50)
def wsX7_asNumber : List Cond := .code yX7_asNumber cX7_asNumber 1 (some .int) :: ([])
def wsX5_add : List Cond := .code yX5_add cX5_add 5 none :: ([.fieldLink RX5 29 "LeafTurner$Pictures" "size" "I", .fieldLink RX5 14 "LeafTurner$Pictures" "pages" "LLeafTurner$Numbers;", .fieldLink RX5 20 "LeafTurner$Pictures" "numbers" "LLeafTurner$Numbers;", .fieldLink RX5 23 "LeafTurner$Pictures" "gutters" "LLeafTurner$Numbers;", .fieldLink RX5 26 "LeafTurner$Pictures" "pairs" "LLeafTurner$Numbers;", .methodLink RX5 37 yX3_put, .instanceMethod yX3_put, .selects RX3 yX3_put yX3_put, .initialized RX3, .code yX3_put cX3_put 3 none, .fieldLink RX3 15 "LeafTurner$Numbers" "cells" "[I", .methodLink RX3 21 yX3_has, .instanceMethod yX3_has, .selects RX3 yX3_has yX3_has, .code yX3_has cX3_has 2 (some .boolean), .static yX7_asNumber, .initialized RX7, .code yX7_asNumber cX7_asNumber 1 (some .int)] ++ wsX50 ++ wsX30)
def wsX5_removeAt : List Cond := .code yX5_removeAt cX5_removeAt 2 none :: ([.fieldLink RX5 14 "LeafTurner$Pictures" "pages" "LLeafTurner$Numbers;", .fieldLink RX5 20 "LeafTurner$Pictures" "numbers" "LLeafTurner$Numbers;", .fieldLink RX5 23 "LeafTurner$Pictures" "gutters" "LLeafTurner$Numbers;", .fieldLink RX5 26 "LeafTurner$Pictures" "pairs" "LLeafTurner$Numbers;", .fieldLink RX5 29 "LeafTurner$Pictures" "size" "I", .methodLink RX5 45 yX5_has, .instanceMethod yX5_has, .selects RX5 yX5_has yX5_has, .initialized RX5, .code yX5_has cX5_has 2 (some .boolean), .methodLink RX5 49 yX3_removeAt, .instanceMethod yX3_removeAt, .selects RX3 yX3_removeAt yX3_removeAt, .initialized RX3, .code yX3_removeAt cX3_removeAt 2 none, .fieldLink RX3 15 "LeafTurner$Numbers" "cells" "[I", .methodLink RX3 31 arraycopyName, .native arraycopyName, .static arraycopyName, .initialized "java/lang/System", .methodLink RX3 21 yX3_has, .instanceMethod yX3_has, .selects RX3 yX3_has yX3_has, .code yX3_has cX3_has 2 (some .boolean)] ++ wsX50 ++ wsX30)
def wsX5_howManyShow : List Cond := .code yX5_howManyShow cX5_howManyShow 4 (some .int) :: ([.fieldLink RX5 29 "LeafTurner$Pictures" "size" "I", .fieldLink RX5 14 "LeafTurner$Pictures" "pages" "LLeafTurner$Numbers;", .methodLink RX5 33 yX3_at, .instanceMethod yX3_at, .selects RX3 yX3_at yX3_at, .initialized RX3, .code yX3_at cX3_at 2 (some .int), .fieldLink RX3 15 "LeafTurner$Numbers" "cells" "[I", .methodLink RX3 21 yX3_has, .instanceMethod yX3_has, .selects RX3 yX3_has yX3_has, .code yX3_has cX3_has 2 (some .boolean)] ++ wsX50 ++ wsX30)
def wsX6_clearForBook : List Cond := .code yX6_clearForBook cX6_clearForBook 1 none :: ([.fieldLink RX6 21 "LeafTurner$State" "pictures" "LLeafTurner$Pictures;", .fieldLink RX6 56 "LeafTurner$State" "left" "I", .fieldLink RX6 59 "LeafTurner$State" "turnings" "I", .fieldLink RX6 62 "LeafTurner$State" "turningsOfMore" "I", .fieldLink RX6 65 "LeafTurner$State" "turningsOfNone" "I", .fieldLink RX6 68 "LeafTurner$State" "singlesInRow" "I", .fieldLink RX6 71 "LeafTurner$State" "pairs" "I"] ++ wsX60 ++ wsX50)
def wsX6_hasBook : List Cond := .code yX6_hasBook cX6_hasBook 1 (some .boolean) :: ([.fieldLink RX6 12 "LeafTurner$State" "book" "LLeafTurner$Book;"] ++ wsX60 ++ wsX00)
def wsX6_leavesOnRight : List Cond := .code yX6_leavesOnRight cX6_leavesOnRight 1 (some .int) :: ([.fieldLink RX6 12 "LeafTurner$State" "book" "LLeafTurner$Book;", .fieldLink RX6 56 "LeafTurner$State" "left" "I"] ++ wsX60 ++ wsX00)
def wsX6_openOnLeft : List Cond := .code yX6_openOnLeft cX6_openOnLeft 1 (some .int) :: ([.fieldLink RX6 56 "LeafTurner$State" "left" "I"] ++ wsX60)
def wsX6_openOnRight : List Cond := .code yX6_openOnRight cX6_openOnRight 1 (some .int) :: ([.fieldLink RX6 56 "LeafTurner$State" "left" "I", .methodLink RX6 80 yX6_leavesOnRight, .instanceMethod yX6_leavesOnRight, .selects RX6 yX6_leavesOnRight yX6_leavesOnRight, .initialized RX6, .code yX6_leavesOnRight cX6_leavesOnRight 1 (some .int), .fieldLink RX6 12 "LeafTurner$State" "book" "LLeafTurner$Book;"] ++ wsX60 ++ wsX00)
def wsX6_liftedBy : List Cond := .code yX6_liftedBy cX6_liftedBy 6 (some .int) :: ([.fieldLink RX6 56 "LeafTurner$State" "left" "I", .fieldLink RX6 12 "LeafTurner$State" "book" "LLeafTurner$Book;", .methodLink RX6 87 yX3_at, .instanceMethod yX3_at, .selects RX3 yX3_at yX3_at, .initialized RX3, .code yX3_at cX3_at 2 (some .int), .fieldLink RX3 15 "LeafTurner$Numbers" "cells" "[I", .methodLink RX3 21 yX3_has, .instanceMethod yX3_has, .selects RX3 yX3_has yX3_has, .code yX3_has cX3_has 2 (some .boolean)] ++ wsX60 ++ wsX00 ++ wsX30)
def wsX6_learnFrom : List Cond := .code yX6_learnFrom cX6_learnFrom 3 none :: ([.fieldLink RX6 68 "LeafTurner$State" "singlesInRow" "I", .fieldLink RX6 34 "LeafTurner$State" "settings" "LLeafTurner$Numbers;", .fieldLink RX6 42 "LeafTurner$State" "suction" "I", .methodLink RX6 100 Lib.Math.min.name, .static Lib.Math.min.name, .initialized "java/lang/Math", .code Lib.Math.min.name Lib.Math.min.code 2 (some .int), .methodLink RX6 106 Lib.Math.max.name, .static Lib.Math.max.name, .code Lib.Math.max.name Lib.Math.max.code 2 (some .int), .methodLink RX6 87 yX3_at, .instanceMethod yX3_at, .selects RX3 yX3_at yX3_at, .initialized RX3, .code yX3_at cX3_at 2 (some .int), .fieldLink RX3 15 "LeafTurner$Numbers" "cells" "[I", .methodLink RX3 21 yX3_has, .instanceMethod yX3_has, .selects RX3 yX3_has yX3_has, .code yX3_has cX3_has 2 (some .boolean)] ++ wsX60 ++ wsX30)
def wsX6_turnOnce_r1 : List Cond := [Cond.fieldLink RX6 42 "LeafTurner$State" "suction" "I", Cond.fieldLink RX6 56 "LeafTurner$State" "left" "I", Cond.fieldLink RX6 59 "LeafTurner$State" "turnings" "I", Cond.fieldLink RX6 65 "LeafTurner$State" "turningsOfNone" "I", Cond.fieldLink RX6 62 "LeafTurner$State" "turningsOfMore" "I", Cond.methodLink RX6 94 yX6_liftedBy, Cond.instanceMethod yX6_liftedBy, Cond.selects RX6 yX6_liftedBy yX6_liftedBy, Cond.initialized RX6, Cond.code yX6_liftedBy cX6_liftedBy 6 (some .int), Cond.fieldLink RX6 12 "LeafTurner$State" "book" "LLeafTurner$Book;", Cond.methodLink RX6 87 yX3_at, Cond.instanceMethod yX3_at, Cond.selects RX3 yX3_at yX3_at, Cond.initialized RX3, Cond.code yX3_at cX3_at 2 (some .int), Cond.fieldLink RX3 15 "LeafTurner$Numbers" "cells" "[I", Cond.methodLink RX3 21 yX3_has, Cond.instanceMethod yX3_has, Cond.selects RX3 yX3_has yX3_has, Cond.code yX3_has cX3_has 2 (some .boolean), Cond.methodLink RX6 97 yX6_learnFrom, Cond.instanceMethod yX6_learnFrom, Cond.selects RX6 yX6_learnFrom yX6_learnFrom]
def wsX6_turnOnce_r2 : List Cond := [Cond.code yX6_learnFrom cX6_learnFrom 3 none, Cond.fieldLink RX6 68 "LeafTurner$State" "singlesInRow" "I", Cond.fieldLink RX6 34 "LeafTurner$State" "settings" "LLeafTurner$Numbers;", Cond.methodLink RX6 100 Lib.Math.min.name, Cond.static Lib.Math.min.name, Cond.initialized "java/lang/Math", Cond.code Lib.Math.min.name Lib.Math.min.code 2 (some .int), Cond.methodLink RX6 106 Lib.Math.max.name, Cond.static Lib.Math.max.name, Cond.code Lib.Math.max.name Lib.Math.max.code 2 (some .int)]
def wsX6_turnOnce : List Cond := .code yX6_turnOnce cX6_turnOnce 2 (some .int) :: ((wsX6_turnOnce_r1 ++ wsX6_turnOnce_r2) ++ wsX60 ++ wsX00 ++ wsX30)
def wsX7_isRightPage : List Cond := .code yX7_isRightPage cX7_isRightPage 1 (some .boolean) :: ([])
def wsX6_gutterIsGood : List Cond := .code yX6_gutterIsGood cX6_gutterIsGood 5 (some .boolean) :: ([.fieldLink RX6 12 "LeafTurner$State" "book" "LLeafTurner$Book;", .fieldLink RX6 34 "LeafTurner$State" "settings" "LLeafTurner$Numbers;", .static yX7_isRightPage, .initialized RX7, .code yX7_isRightPage cX7_isRightPage 1 (some .boolean), .methodLink RX6 87 yX3_at, .instanceMethod yX3_at, .selects RX3 yX3_at yX3_at, .initialized RX3, .code yX3_at cX3_at 2 (some .int), .fieldLink RX3 15 "LeafTurner$Numbers" "cells" "[I", .methodLink RX3 21 yX3_has, .instanceMethod yX3_has, .selects RX3 yX3_has yX3_has, .code yX3_has cX3_has 2 (some .boolean)] ++ wsX60 ++ wsX00 ++ wsX30)
def wsX6_pagesOpen : List Cond := .code yX6_pagesOpen cX6_pagesOpen 1 (some .int) :: ([.methodLink RX6 113 yX6_openOnLeft, .instanceMethod yX6_openOnLeft, .selects RX6 yX6_openOnLeft yX6_openOnLeft, .initialized RX6, .code yX6_openOnLeft cX6_openOnLeft 1 (some .int), .fieldLink RX6 56 "LeafTurner$State" "left" "I", .static yX7_asNumber, .initialized RX7, .code yX7_asNumber cX7_asNumber 1 (some .int), .methodLink RX6 120 yX6_openOnRight, .instanceMethod yX6_openOnRight, .selects RX6 yX6_openOnRight yX6_openOnRight, .code yX6_openOnRight cX6_openOnRight 1 (some .int), .methodLink RX6 80 yX6_leavesOnRight, .instanceMethod yX6_leavesOnRight, .selects RX6 yX6_leavesOnRight yX6_leavesOnRight, .code yX6_leavesOnRight cX6_leavesOnRight 1 (some .int), .fieldLink RX6 12 "LeafTurner$State" "book" "LLeafTurner$Book;"] ++ wsX60 ++ wsX00)
def wsX6_hasRoomForPair : List Cond := .code yX6_hasRoomForPair cX6_hasRoomForPair 1 (some .boolean) :: ([.fieldLink RX6 21 "LeafTurner$State" "pictures" "LLeafTurner$Pictures;", .methodLink RX6 123 yX6_pagesOpen, .instanceMethod yX6_pagesOpen, .selects RX6 yX6_pagesOpen yX6_pagesOpen, .initialized RX6, .code yX6_pagesOpen cX6_pagesOpen 1 (some .int), .methodLink RX6 113 yX6_openOnLeft, .instanceMethod yX6_openOnLeft, .selects RX6 yX6_openOnLeft yX6_openOnLeft, .code yX6_openOnLeft cX6_openOnLeft 1 (some .int), .fieldLink RX6 56 "LeafTurner$State" "left" "I", .static yX7_asNumber, .initialized RX7, .code yX7_asNumber cX7_asNumber 1 (some .int), .methodLink RX6 120 yX6_openOnRight, .instanceMethod yX6_openOnRight, .selects RX6 yX6_openOnRight yX6_openOnRight, .code yX6_openOnRight cX6_openOnRight 1 (some .int), .methodLink RX6 80 yX6_leavesOnRight, .instanceMethod yX6_leavesOnRight, .selects RX6 yX6_leavesOnRight yX6_leavesOnRight, .code yX6_leavesOnRight cX6_leavesOnRight 1 (some .int), .fieldLink RX6 12 "LeafTurner$State" "book" "LLeafTurner$Book;"] ++ wsX60 ++ wsX50 ++ wsX00)
def wsX6_takePicture_r1 : List Cond := [Cond.fieldLink RX6 12 "LeafTurner$State" "book" "LLeafTurner$Book;", Cond.fieldLink RX6 21 "LeafTurner$State" "pictures" "LLeafTurner$Pictures;", Cond.fieldLink RX6 71 "LeafTurner$State" "pairs" "I", Cond.methodLink RX6 129 yX6_gutterIsGood, Cond.instanceMethod yX6_gutterIsGood, Cond.selects RX6 yX6_gutterIsGood yX6_gutterIsGood, Cond.initialized RX6, Cond.code yX6_gutterIsGood cX6_gutterIsGood 5 (some .boolean), Cond.fieldLink RX6 34 "LeafTurner$State" "settings" "LLeafTurner$Numbers;", Cond.static yX7_isRightPage, Cond.initialized RX7, Cond.code yX7_isRightPage cX7_isRightPage 1 (some .boolean), Cond.methodLink RX6 87 yX3_at, Cond.instanceMethod yX3_at, Cond.selects RX3 yX3_at yX3_at, Cond.initialized RX3, Cond.code yX3_at cX3_at 2 (some .int), Cond.fieldLink RX3 15 "LeafTurner$Numbers" "cells" "[I", Cond.methodLink RX3 21 yX3_has, Cond.instanceMethod yX3_has, Cond.selects RX3 yX3_has yX3_has, Cond.code yX3_has cX3_has 2 (some .boolean), Cond.methodLink RX6 135 yX5_add, Cond.instanceMethod yX5_add]
def wsX6_takePicture_r2 : List Cond := [Cond.selects RX5 yX5_add yX5_add, Cond.initialized RX5, Cond.code yX5_add cX5_add 5 none, Cond.fieldLink RX5 29 "LeafTurner$Pictures" "size" "I", Cond.fieldLink RX5 14 "LeafTurner$Pictures" "pages" "LLeafTurner$Numbers;", Cond.fieldLink RX5 20 "LeafTurner$Pictures" "numbers" "LLeafTurner$Numbers;", Cond.fieldLink RX5 23 "LeafTurner$Pictures" "gutters" "LLeafTurner$Numbers;", Cond.fieldLink RX5 26 "LeafTurner$Pictures" "pairs" "LLeafTurner$Numbers;", Cond.methodLink RX5 37 yX3_put, Cond.instanceMethod yX3_put, Cond.selects RX3 yX3_put yX3_put, Cond.code yX3_put cX3_put 3 none, Cond.static yX7_asNumber, Cond.code yX7_asNumber cX7_asNumber 1 (some .int)]
def wsX6_takePicture : List Cond := .code yX6_takePicture cX6_takePicture 4 none :: ((wsX6_takePicture_r1 ++ wsX6_takePicture_r2) ++ wsX60 ++ wsX00 ++ wsX30 ++ wsX50)
def wsX6_takePair_r1 : List Cond := [Cond.fieldLink RX6 71 "LeafTurner$State" "pairs" "I", Cond.methodLink RX6 123 yX6_pagesOpen, Cond.instanceMethod yX6_pagesOpen, Cond.selects RX6 yX6_pagesOpen yX6_pagesOpen, Cond.initialized RX6, Cond.code yX6_pagesOpen cX6_pagesOpen 1 (some .int), Cond.methodLink RX6 113 yX6_openOnLeft, Cond.instanceMethod yX6_openOnLeft, Cond.selects RX6 yX6_openOnLeft yX6_openOnLeft, Cond.code yX6_openOnLeft cX6_openOnLeft 1 (some .int), Cond.fieldLink RX6 56 "LeafTurner$State" "left" "I", Cond.static yX7_asNumber, Cond.initialized RX7, Cond.code yX7_asNumber cX7_asNumber 1 (some .int), Cond.methodLink RX6 120 yX6_openOnRight, Cond.instanceMethod yX6_openOnRight, Cond.selects RX6 yX6_openOnRight yX6_openOnRight, Cond.code yX6_openOnRight cX6_openOnRight 1 (some .int), Cond.methodLink RX6 80 yX6_leavesOnRight, Cond.instanceMethod yX6_leavesOnRight, Cond.selects RX6 yX6_leavesOnRight yX6_leavesOnRight, Cond.code yX6_leavesOnRight cX6_leavesOnRight 1 (some .int), Cond.fieldLink RX6 12 "LeafTurner$State" "book" "LLeafTurner$Book;", Cond.methodLink RX6 126 yX6_takePicture]
def wsX6_takePair_r2 : List Cond := [Cond.instanceMethod yX6_takePicture, Cond.selects RX6 yX6_takePicture yX6_takePicture, Cond.code yX6_takePicture cX6_takePicture 4 none, Cond.fieldLink RX6 21 "LeafTurner$State" "pictures" "LLeafTurner$Pictures;", Cond.methodLink RX6 129 yX6_gutterIsGood, Cond.instanceMethod yX6_gutterIsGood, Cond.selects RX6 yX6_gutterIsGood yX6_gutterIsGood, Cond.code yX6_gutterIsGood cX6_gutterIsGood 5 (some .boolean), Cond.fieldLink RX6 34 "LeafTurner$State" "settings" "LLeafTurner$Numbers;", Cond.static yX7_isRightPage, Cond.code yX7_isRightPage cX7_isRightPage 1 (some .boolean), Cond.methodLink RX6 87 yX3_at, Cond.instanceMethod yX3_at, Cond.selects RX3 yX3_at yX3_at, Cond.initialized RX3, Cond.code yX3_at cX3_at 2 (some .int), Cond.fieldLink RX3 15 "LeafTurner$Numbers" "cells" "[I", Cond.methodLink RX3 21 yX3_has, Cond.instanceMethod yX3_has, Cond.selects RX3 yX3_has yX3_has, Cond.code yX3_has cX3_has 2 (some .boolean), Cond.methodLink RX6 135 yX5_add, Cond.instanceMethod yX5_add, Cond.selects RX5 yX5_add yX5_add]
def wsX6_takePair_r3 : List Cond := [Cond.initialized RX5, Cond.code yX5_add cX5_add 5 none, Cond.fieldLink RX5 29 "LeafTurner$Pictures" "size" "I", Cond.fieldLink RX5 14 "LeafTurner$Pictures" "pages" "LLeafTurner$Numbers;", Cond.fieldLink RX5 20 "LeafTurner$Pictures" "numbers" "LLeafTurner$Numbers;", Cond.fieldLink RX5 23 "LeafTurner$Pictures" "gutters" "LLeafTurner$Numbers;", Cond.fieldLink RX5 26 "LeafTurner$Pictures" "pairs" "LLeafTurner$Numbers;", Cond.methodLink RX5 37 yX3_put, Cond.instanceMethod yX3_put, Cond.selects RX3 yX3_put yX3_put, Cond.code yX3_put cX3_put 3 none]
def wsX6_takePair : List Cond := .code yX6_takePair cX6_takePair 2 (some .int) :: ((wsX6_takePair_r1 ++ (wsX6_takePair_r2 ++ wsX6_takePair_r3)) ++ wsX60 ++ wsX00 ++ wsX30 ++ wsX50)
def wsX6_takeAndTurn_r1 : List Cond := [Cond.methodLink RX6 80 yX6_leavesOnRight, Cond.instanceMethod yX6_leavesOnRight, Cond.selects RX6 yX6_leavesOnRight yX6_leavesOnRight, Cond.initialized RX6, Cond.code yX6_leavesOnRight cX6_leavesOnRight 1 (some .int), Cond.fieldLink RX6 12 "LeafTurner$State" "book" "LLeafTurner$Book;", Cond.fieldLink RX6 56 "LeafTurner$State" "left" "I", Cond.methodLink RX6 139 yX6_hasRoomForPair, Cond.instanceMethod yX6_hasRoomForPair, Cond.selects RX6 yX6_hasRoomForPair yX6_hasRoomForPair, Cond.code yX6_hasRoomForPair cX6_hasRoomForPair 1 (some .boolean), Cond.fieldLink RX6 21 "LeafTurner$State" "pictures" "LLeafTurner$Pictures;", Cond.methodLink RX6 123 yX6_pagesOpen, Cond.instanceMethod yX6_pagesOpen, Cond.selects RX6 yX6_pagesOpen yX6_pagesOpen, Cond.code yX6_pagesOpen cX6_pagesOpen 1 (some .int), Cond.methodLink RX6 113 yX6_openOnLeft, Cond.instanceMethod yX6_openOnLeft, Cond.selects RX6 yX6_openOnLeft yX6_openOnLeft, Cond.code yX6_openOnLeft cX6_openOnLeft 1 (some .int), Cond.static yX7_asNumber, Cond.initialized RX7, Cond.code yX7_asNumber cX7_asNumber 1 (some .int), Cond.methodLink RX6 120 yX6_openOnRight]
def wsX6_takeAndTurn_r2 : List Cond := [Cond.instanceMethod yX6_openOnRight, Cond.selects RX6 yX6_openOnRight yX6_openOnRight, Cond.code yX6_openOnRight cX6_openOnRight 1 (some .int), Cond.methodLink RX6 143 yX6_takePair, Cond.instanceMethod yX6_takePair, Cond.selects RX6 yX6_takePair yX6_takePair, Cond.code yX6_takePair cX6_takePair 2 (some .int), Cond.fieldLink RX6 71 "LeafTurner$State" "pairs" "I", Cond.methodLink RX6 126 yX6_takePicture, Cond.instanceMethod yX6_takePicture, Cond.selects RX6 yX6_takePicture yX6_takePicture, Cond.code yX6_takePicture cX6_takePicture 4 none, Cond.methodLink RX6 129 yX6_gutterIsGood, Cond.instanceMethod yX6_gutterIsGood, Cond.selects RX6 yX6_gutterIsGood yX6_gutterIsGood, Cond.code yX6_gutterIsGood cX6_gutterIsGood 5 (some .boolean), Cond.fieldLink RX6 34 "LeafTurner$State" "settings" "LLeafTurner$Numbers;", Cond.static yX7_isRightPage, Cond.code yX7_isRightPage cX7_isRightPage 1 (some .boolean), Cond.methodLink RX6 87 yX3_at, Cond.instanceMethod yX3_at, Cond.selects RX3 yX3_at yX3_at, Cond.initialized RX3, Cond.code yX3_at cX3_at 2 (some .int)]
def wsX6_takeAndTurn_r3 : List Cond := [Cond.fieldLink RX3 15 "LeafTurner$Numbers" "cells" "[I", Cond.methodLink RX3 21 yX3_has, Cond.instanceMethod yX3_has, Cond.selects RX3 yX3_has yX3_has, Cond.code yX3_has cX3_has 2 (some .boolean), Cond.methodLink RX6 135 yX5_add, Cond.instanceMethod yX5_add, Cond.selects RX5 yX5_add yX5_add, Cond.initialized RX5, Cond.code yX5_add cX5_add 5 none, Cond.fieldLink RX5 29 "LeafTurner$Pictures" "size" "I", Cond.fieldLink RX5 14 "LeafTurner$Pictures" "pages" "LLeafTurner$Numbers;", Cond.fieldLink RX5 20 "LeafTurner$Pictures" "numbers" "LLeafTurner$Numbers;", Cond.fieldLink RX5 23 "LeafTurner$Pictures" "gutters" "LLeafTurner$Numbers;", Cond.fieldLink RX5 26 "LeafTurner$Pictures" "pairs" "LLeafTurner$Numbers;", Cond.methodLink RX5 37 yX3_put, Cond.instanceMethod yX3_put, Cond.selects RX3 yX3_put yX3_put, Cond.code yX3_put cX3_put 3 none, Cond.methodLink RX6 146 yX6_turnOnce, Cond.instanceMethod yX6_turnOnce, Cond.selects RX6 yX6_turnOnce yX6_turnOnce, Cond.code yX6_turnOnce cX6_turnOnce 2 (some .int), Cond.fieldLink RX6 42 "LeafTurner$State" "suction" "I"]
def wsX6_takeAndTurn_r4 : List Cond := [Cond.fieldLink RX6 59 "LeafTurner$State" "turnings" "I", Cond.fieldLink RX6 65 "LeafTurner$State" "turningsOfNone" "I", Cond.fieldLink RX6 62 "LeafTurner$State" "turningsOfMore" "I", Cond.methodLink RX6 94 yX6_liftedBy, Cond.instanceMethod yX6_liftedBy, Cond.selects RX6 yX6_liftedBy yX6_liftedBy, Cond.code yX6_liftedBy cX6_liftedBy 6 (some .int), Cond.methodLink RX6 97 yX6_learnFrom, Cond.instanceMethod yX6_learnFrom, Cond.selects RX6 yX6_learnFrom yX6_learnFrom, Cond.code yX6_learnFrom cX6_learnFrom 3 none, Cond.fieldLink RX6 68 "LeafTurner$State" "singlesInRow" "I", Cond.methodLink RX6 100 Lib.Math.min.name, Cond.static Lib.Math.min.name, Cond.initialized "java/lang/Math", Cond.code Lib.Math.min.name Lib.Math.min.code 2 (some .int), Cond.methodLink RX6 106 Lib.Math.max.name, Cond.static Lib.Math.max.name, Cond.code Lib.Math.max.name Lib.Math.max.code 2 (some .int)]
def wsX6_takeAndTurn : List Cond := .code yX6_takeAndTurn cX6_takeAndTurn 4 (some .int) :: ((wsX6_takeAndTurn_r1 ++ (wsX6_takeAndTurn_r2 ++ (wsX6_takeAndTurn_r3 ++ wsX6_takeAndTurn_r4))) ++ wsX60 ++ wsX00 ++ wsX50 ++ wsX30)
def wsX7_init_r1 : List Cond := [Cond.methodLink RX7 1 objectInit, Cond.instanceMethod objectInit, Cond.code objectInit ⟨#[0xb1]⟩ 1 none, Cond.classLink RX7 7 RX6, Cond.instantiable RX6 10, Cond.initialized RX6, Cond.fieldLink RX7 10 "LeafTurner" "now" "LLeafTurner$State;", Cond.fieldLink RX7 16 "LeafTurner" "trial" "LLeafTurner$State;", Cond.fieldLink RX7 19 "LeafTurner" "snapshot" "LLeafTurner$State;", Cond.classLink RX7 22 RX2, Cond.instantiable RX2 2, Cond.initialized RX2, Cond.fieldLink RX7 25 "LeafTurner" "history" "LLeafTurner$History;", Cond.classLink RX7 29 RX1, Cond.instantiable RX1 2, Cond.initialized RX1, Cond.fieldLink RX7 32 "LeafTurner" "text" "LLeafTurner$BookText;", Cond.classLink RX7 36 RX4, Cond.instantiable RX4 4, Cond.initialized RX4, Cond.fieldLink RX7 39 "LeafTurner" "pageSet" "LLeafTurner$PageSet;", Cond.fieldLink RX7 43 "LeafTurner" "hasSnapshot" "Z", Cond.methodLink RX7 9 yX6_init, Cond.instanceMethod yX6_init]
def wsX7_init_r2 : List Cond := [Cond.code yX6_init cX6_init 2 none, Cond.methodLink RX6 3 objectInit, Cond.classLink RX6 9 RX0, Cond.instantiable RX0 4, Cond.initialized RX0, Cond.fieldLink RX6 12 "LeafTurner$State" "book" "LLeafTurner$Book;", Cond.classLink RX6 18 RX5, Cond.instantiable RX5 5, Cond.initialized RX5, Cond.fieldLink RX6 21 "LeafTurner$State" "pictures" "LLeafTurner$Pictures;", Cond.classLink RX6 25 RX3, Cond.instantiable RX3 1, Cond.initialized RX3, Cond.fieldLink RX6 34 "LeafTurner$State" "settings" "LLeafTurner$Numbers;", Cond.fieldLink RX6 42 "LeafTurner$State" "suction" "I", Cond.methodLink RX6 11 yX0_init, Cond.instanceMethod yX0_init, Cond.code yX0_init cX0_init 1 none, Cond.methodLink RX0 3 objectInit, Cond.classLink RX0 9 RX3, Cond.fieldLink RX0 14 "LeafTurner$Book" "weights" "LLeafTurner$Numbers;", Cond.fieldLink RX0 20 "LeafTurner$Book" "strengths" "LLeafTurner$Numbers;", Cond.fieldLink RX0 23 "LeafTurner$Book" "printed" "LLeafTurner$Numbers;", Cond.fieldLink RX0 26 "LeafTurner$Book" "leaves" "I"]
def wsX7_init_r3 : List Cond := [Cond.methodLink RX0 11 yX3_init, Cond.instanceMethod yX3_init, Cond.code yX3_init cX3_init 2 none, Cond.methodLink RX3 3 objectInit, Cond.methodLink RX3 9 Lib.Math.max.name, Cond.static Lib.Math.max.name, Cond.initialized "java/lang/Math", Cond.code Lib.Math.max.name Lib.Math.max.code 2 (some .int), Cond.arrayClass .int, Cond.fieldLink RX3 15 "LeafTurner$Numbers" "cells" "[I", Cond.methodLink RX6 20 yX5_init, Cond.instanceMethod yX5_init, Cond.code yX5_init cX5_init 1 none, Cond.methodLink RX5 3 objectInit, Cond.classLink RX5 9 RX3, Cond.fieldLink RX5 14 "LeafTurner$Pictures" "pages" "LLeafTurner$Numbers;", Cond.fieldLink RX5 20 "LeafTurner$Pictures" "numbers" "LLeafTurner$Numbers;", Cond.fieldLink RX5 23 "LeafTurner$Pictures" "gutters" "LLeafTurner$Numbers;", Cond.fieldLink RX5 26 "LeafTurner$Pictures" "pairs" "LLeafTurner$Numbers;", Cond.fieldLink RX5 29 "LeafTurner$Pictures" "size" "I", Cond.methodLink RX5 11 yX3_init, Cond.methodLink RX6 31 yX3_init, Cond.methodLink RX6 38 yX3_put, Cond.instanceMethod yX3_put]
def wsX7_init_r4 : List Cond := [Cond.selects RX3 yX3_put yX3_put, Cond.code yX3_put cX3_put 3 none, Cond.methodLink RX3 21 yX3_has, Cond.instanceMethod yX3_has, Cond.selects RX3 yX3_has yX3_has, Cond.code yX3_has cX3_has 2 (some .boolean), Cond.methodLink RX7 24 yX2_init, Cond.instanceMethod yX2_init, Cond.code yX2_init cX2_init 2 none, Cond.methodLink RX2 3 objectInit, Cond.classLink RX2 9 RX6, Cond.fieldLink RX2 11 "LeafTurner$History" "states" "[LLeafTurner$State;", Cond.fieldLink RX2 18 "LeafTurner$History" "size" "I", Cond.methodLink RX2 17 yX6_init, Cond.methodLink RX7 31 yX1_init, Cond.instanceMethod yX1_init, Cond.code yX1_init cX1_init 1 none, Cond.methodLink RX1 3 objectInit, Cond.arrayClass .char, Cond.fieldLink RX1 9 "LeafTurner$BookText" "signs" "[C", Cond.fieldLink RX1 15 "LeafTurner$BookText" "length" "I", Cond.methodLink RX7 38 yX4_init, Cond.instanceMethod yX4_init, Cond.code yX4_init cX4_init 1 none]
def wsX7_init_r5 : List Cond := [Cond.methodLink RX4 3 objectInit, Cond.classLink RX4 9 RX3, Cond.fieldLink RX4 14 "LeafTurner$PageSet" "guesses" "LLeafTurner$Numbers;", Cond.fieldLink RX4 20 "LeafTurner$PageSet" "chosen" "LLeafTurner$Numbers;", Cond.methodLink RX4 11 yX3_init]
def wsX7_init : List Cond := .code yX7_init cX7_init 1 none :: ((wsX7_init_r1 ++ (wsX7_init_r2 ++ (wsX7_init_r3 ++ (wsX7_init_r4 ++ wsX7_init_r5)))) ++ wsX60 ++ wsX70 ++ wsX20 ++ wsX10 ++ wsX40 ++ wsX00 ++ wsX50 ++ wsX30)
def wsX7_takeBook_r1 : List Cond := [Cond.fieldLink RX7 32 "LeafTurner" "text" "LLeafTurner$BookText;", Cond.fieldLink RX7 16 "LeafTurner" "trial" "LLeafTurner$State;", Cond.fieldLink RX7 25 "LeafTurner" "history" "LLeafTurner$History;", Cond.fieldLink RX7 10 "LeafTurner" "now" "LLeafTurner$State;", Cond.methodLink RX7 51 yX1_readInto, Cond.instanceMethod yX1_readInto, Cond.selects RX1 yX1_readInto yX1_readInto, Cond.initialized RX1, Cond.code yX1_readInto cX1_readInto 6 (some .int), Cond.fieldLink RX1 15 "LeafTurner$BookText" "length" "I", Cond.methodLink RX1 24 yX1_isDigit, Cond.instanceMethod yX1_isDigit, Cond.selects RX1 yX1_isDigit yX1_isDigit, Cond.code yX1_isDigit cX1_isDigit 2 (some .boolean), Cond.fieldLink RX1 9 "LeafTurner$BookText" "signs" "[C", Cond.methodLink RX1 50 yX1_has, Cond.instanceMethod yX1_has, Cond.selects RX1 yX1_has yX1_has, Cond.code yX1_has cX1_has 2 (some .boolean), Cond.methodLink RX1 28 yX1_digit, Cond.instanceMethod yX1_digit, Cond.selects RX1 yX1_digit yX1_digit, Cond.code yX1_digit cX1_digit 2 (some .int), Cond.methodLink RX1 32 yX1_is]
def wsX7_takeBook_r2 : List Cond := [Cond.instanceMethod yX1_is, Cond.selects RX1 yX1_is yX1_is, Cond.code yX1_is cX1_is 3 (some .boolean), Cond.methodLink RX1 36 yX0_addLeaf, Cond.instanceMethod yX0_addLeaf, Cond.selects RX0 yX0_addLeaf yX0_addLeaf, Cond.initialized RX0, Cond.code yX0_addLeaf cX0_addLeaf 4 none, Cond.fieldLink RX0 26 "LeafTurner$Book" "leaves" "I", Cond.fieldLink RX0 14 "LeafTurner$Book" "weights" "LLeafTurner$Numbers;", Cond.fieldLink RX0 20 "LeafTurner$Book" "strengths" "LLeafTurner$Numbers;", Cond.fieldLink RX0 23 "LeafTurner$Book" "printed" "LLeafTurner$Numbers;", Cond.methodLink RX0 34 yX3_put, Cond.instanceMethod yX3_put, Cond.selects RX3 yX3_put yX3_put, Cond.initialized RX3, Cond.code yX3_put cX3_put 3 none, Cond.fieldLink RX3 15 "LeafTurner$Numbers" "cells" "[I", Cond.methodLink RX3 21 yX3_has, Cond.instanceMethod yX3_has, Cond.selects RX3 yX3_has yX3_has, Cond.code yX3_has cX3_has 2 (some .boolean), Cond.methodLink RX1 40 yX1_readMark, Cond.instanceMethod yX1_readMark]
def wsX7_takeBook_r3 : List Cond := [Cond.selects RX1 yX1_readMark yX1_readMark, Cond.code yX1_readMark cX1_readMark 3 (some .int), Cond.methodLink RX1 44 yX0_printNothingOnLast, Cond.instanceMethod yX0_printNothingOnLast, Cond.selects RX0 yX0_printNothingOnLast yX0_printNothingOnLast, Cond.code yX0_printNothingOnLast cX0_printNothingOnLast 1 none, Cond.methodLink RX0 30 yX0_pages, Cond.instanceMethod yX0_pages, Cond.selects RX0 yX0_pages yX0_pages, Cond.code yX0_pages cX0_pages 1 (some .int), Cond.methodLink RX1 47 yX0_printTooMuchOnLast, Cond.instanceMethod yX0_printTooMuchOnLast, Cond.selects RX0 yX0_printTooMuchOnLast yX0_printTooMuchOnLast, Cond.code yX0_printTooMuchOnLast cX0_printTooMuchOnLast 1 none, Cond.methodLink RX7 55 yX2_record, Cond.instanceMethod yX2_record, Cond.selects RX2 yX2_record yX2_record, Cond.initialized RX2, Cond.code yX2_record cX2_record 2 none, Cond.fieldLink RX2 18 "LeafTurner$History" "size" "I", Cond.fieldLink RX2 11 "LeafTurner$History" "states" "[LLeafTurner$State;", Cond.methodLink RX2 22 yX2_dropOldest, Cond.instanceMethod yX2_dropOldest, Cond.selects RX2 yX2_dropOldest yX2_dropOldest]
def wsX7_takeBook_r4 : List Cond := [Cond.code yX2_dropOldest cX2_dropOldest 3 none, Cond.methodLink RX2 25 yX6_copyFrom, Cond.instanceMethod yX6_copyFrom, Cond.selects RX6 yX6_copyFrom yX6_copyFrom, Cond.initialized RX6, Cond.code yX6_copyFrom cX6_copyFrom 2 none, Cond.fieldLink RX6 12 "LeafTurner$State" "book" "LLeafTurner$Book;", Cond.fieldLink RX6 21 "LeafTurner$State" "pictures" "LLeafTurner$Pictures;", Cond.fieldLink RX6 34 "LeafTurner$State" "settings" "LLeafTurner$Numbers;", Cond.fieldLink RX6 56 "LeafTurner$State" "left" "I", Cond.fieldLink RX6 42 "LeafTurner$State" "suction" "I", Cond.fieldLink RX6 59 "LeafTurner$State" "turnings" "I", Cond.fieldLink RX6 62 "LeafTurner$State" "turningsOfMore" "I", Cond.fieldLink RX6 65 "LeafTurner$State" "turningsOfNone" "I", Cond.fieldLink RX6 68 "LeafTurner$State" "singlesInRow" "I", Cond.fieldLink RX6 71 "LeafTurner$State" "pairs" "I", Cond.methodLink RX6 46 yX0_copyFrom, Cond.instanceMethod yX0_copyFrom, Cond.selects RX0 yX0_copyFrom yX0_copyFrom, Cond.code yX0_copyFrom cX0_copyFrom 2 none, Cond.methodLink RX0 44 yX3_copyFrom, Cond.instanceMethod yX3_copyFrom, Cond.selects RX3 yX3_copyFrom yX3_copyFrom, Cond.code yX3_copyFrom cX3_copyFrom 2 none]
def wsX7_takeBook_r5 : List Cond := [Cond.methodLink RX3 37 Lib.Math.min.name, Cond.static Lib.Math.min.name, Cond.initialized "java/lang/Math", Cond.code Lib.Math.min.name Lib.Math.min.code 2 (some .int), Cond.methodLink RX3 31 arraycopyName, Cond.native arraycopyName, Cond.static arraycopyName, Cond.initialized "java/lang/System", Cond.methodLink RX6 50 yX5_copyFrom, Cond.instanceMethod yX5_copyFrom, Cond.selects RX5 yX5_copyFrom yX5_copyFrom, Cond.initialized RX5, Cond.code yX5_copyFrom cX5_copyFrom 2 none, Cond.fieldLink RX5 14 "LeafTurner$Pictures" "pages" "LLeafTurner$Numbers;", Cond.fieldLink RX5 20 "LeafTurner$Pictures" "numbers" "LLeafTurner$Numbers;", Cond.fieldLink RX5 23 "LeafTurner$Pictures" "gutters" "LLeafTurner$Numbers;", Cond.fieldLink RX5 26 "LeafTurner$Pictures" "pairs" "LLeafTurner$Numbers;", Cond.fieldLink RX5 29 "LeafTurner$Pictures" "size" "I", Cond.methodLink RX5 52 yX3_copyFrom, Cond.methodLink RX6 53 yX3_copyFrom, Cond.methodLink RX7 59 yX6_clearForBook, Cond.instanceMethod yX6_clearForBook, Cond.selects RX6 yX6_clearForBook yX6_clearForBook, Cond.code yX6_clearForBook cX6_clearForBook 1 none]
def wsX7_takeBook_r6 : List Cond := [Cond.methodLink RX7 62 yX0_copyFrom]
def wsX7_takeBook : List Cond := .code yX7_takeBook cX7_takeBook 2 (some .int) :: ((wsX7_takeBook_r1 ++ (wsX7_takeBook_r2 ++ (wsX7_takeBook_r3 ++ (wsX7_takeBook_r4 ++ (wsX7_takeBook_r5 ++ wsX7_takeBook_r6))))) ++ wsX70 ++ wsX60 ++ wsX00 ++ wsX10 ++ wsX30 ++ wsX20 ++ wsX50)
def wsX7_layBook_r1 : List Cond := [Cond.fieldLink RX7 25 "LeafTurner" "history" "LLeafTurner$History;", Cond.fieldLink RX7 10 "LeafTurner" "now" "LLeafTurner$State;", Cond.methodLink RX7 55 yX2_record, Cond.instanceMethod yX2_record, Cond.selects RX2 yX2_record yX2_record, Cond.initialized RX2, Cond.code yX2_record cX2_record 2 none, Cond.fieldLink RX2 18 "LeafTurner$History" "size" "I", Cond.fieldLink RX2 11 "LeafTurner$History" "states" "[LLeafTurner$State;", Cond.methodLink RX2 22 yX2_dropOldest, Cond.instanceMethod yX2_dropOldest, Cond.selects RX2 yX2_dropOldest yX2_dropOldest, Cond.code yX2_dropOldest cX2_dropOldest 3 none, Cond.methodLink RX2 25 yX6_copyFrom, Cond.instanceMethod yX6_copyFrom, Cond.selects RX6 yX6_copyFrom yX6_copyFrom, Cond.initialized RX6, Cond.code yX6_copyFrom cX6_copyFrom 2 none, Cond.fieldLink RX6 12 "LeafTurner$State" "book" "LLeafTurner$Book;", Cond.fieldLink RX6 21 "LeafTurner$State" "pictures" "LLeafTurner$Pictures;", Cond.fieldLink RX6 34 "LeafTurner$State" "settings" "LLeafTurner$Numbers;", Cond.fieldLink RX6 56 "LeafTurner$State" "left" "I", Cond.fieldLink RX6 42 "LeafTurner$State" "suction" "I", Cond.fieldLink RX6 59 "LeafTurner$State" "turnings" "I"]
def wsX7_layBook_r2 : List Cond := [Cond.fieldLink RX6 62 "LeafTurner$State" "turningsOfMore" "I", Cond.fieldLink RX6 65 "LeafTurner$State" "turningsOfNone" "I", Cond.fieldLink RX6 68 "LeafTurner$State" "singlesInRow" "I", Cond.fieldLink RX6 71 "LeafTurner$State" "pairs" "I", Cond.methodLink RX6 46 yX0_copyFrom, Cond.instanceMethod yX0_copyFrom, Cond.selects RX0 yX0_copyFrom yX0_copyFrom, Cond.initialized RX0, Cond.code yX0_copyFrom cX0_copyFrom 2 none, Cond.fieldLink RX0 14 "LeafTurner$Book" "weights" "LLeafTurner$Numbers;", Cond.fieldLink RX0 20 "LeafTurner$Book" "strengths" "LLeafTurner$Numbers;", Cond.fieldLink RX0 23 "LeafTurner$Book" "printed" "LLeafTurner$Numbers;", Cond.fieldLink RX0 26 "LeafTurner$Book" "leaves" "I", Cond.methodLink RX0 44 yX3_copyFrom, Cond.instanceMethod yX3_copyFrom, Cond.selects RX3 yX3_copyFrom yX3_copyFrom, Cond.initialized RX3, Cond.code yX3_copyFrom cX3_copyFrom 2 none, Cond.fieldLink RX3 15 "LeafTurner$Numbers" "cells" "[I", Cond.methodLink RX3 37 Lib.Math.min.name, Cond.static Lib.Math.min.name, Cond.initialized "java/lang/Math", Cond.code Lib.Math.min.name Lib.Math.min.code 2 (some .int), Cond.methodLink RX3 31 arraycopyName]
def wsX7_layBook_r3 : List Cond := [Cond.native arraycopyName, Cond.static arraycopyName, Cond.initialized "java/lang/System", Cond.methodLink RX6 50 yX5_copyFrom, Cond.instanceMethod yX5_copyFrom, Cond.selects RX5 yX5_copyFrom yX5_copyFrom, Cond.initialized RX5, Cond.code yX5_copyFrom cX5_copyFrom 2 none, Cond.fieldLink RX5 14 "LeafTurner$Pictures" "pages" "LLeafTurner$Numbers;", Cond.fieldLink RX5 20 "LeafTurner$Pictures" "numbers" "LLeafTurner$Numbers;", Cond.fieldLink RX5 23 "LeafTurner$Pictures" "gutters" "LLeafTurner$Numbers;", Cond.fieldLink RX5 26 "LeafTurner$Pictures" "pairs" "LLeafTurner$Numbers;", Cond.fieldLink RX5 29 "LeafTurner$Pictures" "size" "I", Cond.methodLink RX5 52 yX3_copyFrom, Cond.methodLink RX6 53 yX3_copyFrom, Cond.methodLink RX7 59 yX6_clearForBook, Cond.instanceMethod yX6_clearForBook, Cond.selects RX6 yX6_clearForBook yX6_clearForBook, Cond.code yX6_clearForBook cX6_clearForBook 1 none, Cond.methodLink RX7 72 yX0_layBySeed, Cond.instanceMethod yX0_layBySeed, Cond.selects RX0 yX0_layBySeed yX0_layBySeed, Cond.code yX0_layBySeed cX0_layBySeed 8 (some .int), Cond.methodLink RX0 38 yX0_addLeaf]
def wsX7_layBook_r4 : List Cond := [Cond.instanceMethod yX0_addLeaf, Cond.selects RX0 yX0_addLeaf yX0_addLeaf, Cond.code yX0_addLeaf cX0_addLeaf 4 none, Cond.methodLink RX0 34 yX3_put, Cond.instanceMethod yX3_put, Cond.selects RX3 yX3_put yX3_put, Cond.code yX3_put cX3_put 3 none, Cond.methodLink RX3 21 yX3_has, Cond.instanceMethod yX3_has, Cond.selects RX3 yX3_has yX3_has, Cond.code yX3_has cX3_has 2 (some .boolean), Cond.methodLink RX0 41 yX0_printNothingOnLast, Cond.instanceMethod yX0_printNothingOnLast, Cond.selects RX0 yX0_printNothingOnLast yX0_printNothingOnLast, Cond.code yX0_printNothingOnLast cX0_printNothingOnLast 1 none, Cond.methodLink RX0 30 yX0_pages, Cond.instanceMethod yX0_pages, Cond.selects RX0 yX0_pages yX0_pages, Cond.code yX0_pages cX0_pages 1 (some .int)]
def wsX7_layBook : List Cond := .code yX7_layBook cX7_layBook 3 (some .int) :: ((wsX7_layBook_r1 ++ (wsX7_layBook_r2 ++ (wsX7_layBook_r3 ++ wsX7_layBook_r4))) ++ wsX70 ++ wsX60 ++ wsX20 ++ wsX00 ++ wsX30 ++ wsX50)
def wsX7_print_r1 : List Cond := [Cond.fieldLink RX7 10 "LeafTurner" "now" "LLeafTurner$State;", Cond.fieldLink RX7 25 "LeafTurner" "history" "LLeafTurner$History;", Cond.methodLink RX7 76 yX0_hasPage, Cond.instanceMethod yX0_hasPage, Cond.selects RX0 yX0_hasPage yX0_hasPage, Cond.initialized RX0, Cond.code yX0_hasPage cX0_hasPage 2 (some .boolean), Cond.methodLink RX0 30 yX0_pages, Cond.instanceMethod yX0_pages, Cond.selects RX0 yX0_pages yX0_pages, Cond.code yX0_pages cX0_pages 1 (some .int), Cond.fieldLink RX0 26 "LeafTurner$Book" "leaves" "I", Cond.methodLink RX7 84 yX3_at, Cond.instanceMethod yX3_at, Cond.selects RX3 yX3_at yX3_at, Cond.initialized RX3, Cond.code yX3_at cX3_at 2 (some .int), Cond.fieldLink RX3 15 "LeafTurner$Numbers" "cells" "[I", Cond.methodLink RX3 21 yX3_has, Cond.instanceMethod yX3_has, Cond.selects RX3 yX3_has yX3_has, Cond.code yX3_has cX3_has 2 (some .boolean), Cond.methodLink RX7 55 yX2_record, Cond.instanceMethod yX2_record]
def wsX7_print_r2 : List Cond := [Cond.selects RX2 yX2_record yX2_record, Cond.initialized RX2, Cond.code yX2_record cX2_record 2 none, Cond.fieldLink RX2 18 "LeafTurner$History" "size" "I", Cond.fieldLink RX2 11 "LeafTurner$History" "states" "[LLeafTurner$State;", Cond.methodLink RX2 22 yX2_dropOldest, Cond.instanceMethod yX2_dropOldest, Cond.selects RX2 yX2_dropOldest yX2_dropOldest, Cond.code yX2_dropOldest cX2_dropOldest 3 none, Cond.methodLink RX2 25 yX6_copyFrom, Cond.instanceMethod yX6_copyFrom, Cond.selects RX6 yX6_copyFrom yX6_copyFrom, Cond.initialized RX6, Cond.code yX6_copyFrom cX6_copyFrom 2 none, Cond.fieldLink RX6 12 "LeafTurner$State" "book" "LLeafTurner$Book;", Cond.fieldLink RX6 21 "LeafTurner$State" "pictures" "LLeafTurner$Pictures;", Cond.fieldLink RX6 34 "LeafTurner$State" "settings" "LLeafTurner$Numbers;", Cond.fieldLink RX6 56 "LeafTurner$State" "left" "I", Cond.fieldLink RX6 42 "LeafTurner$State" "suction" "I", Cond.fieldLink RX6 59 "LeafTurner$State" "turnings" "I", Cond.fieldLink RX6 62 "LeafTurner$State" "turningsOfMore" "I", Cond.fieldLink RX6 65 "LeafTurner$State" "turningsOfNone" "I", Cond.fieldLink RX6 68 "LeafTurner$State" "singlesInRow" "I", Cond.fieldLink RX6 71 "LeafTurner$State" "pairs" "I"]
def wsX7_print_r3 : List Cond := [Cond.methodLink RX6 46 yX0_copyFrom, Cond.instanceMethod yX0_copyFrom, Cond.selects RX0 yX0_copyFrom yX0_copyFrom, Cond.code yX0_copyFrom cX0_copyFrom 2 none, Cond.fieldLink RX0 14 "LeafTurner$Book" "weights" "LLeafTurner$Numbers;", Cond.fieldLink RX0 20 "LeafTurner$Book" "strengths" "LLeafTurner$Numbers;", Cond.fieldLink RX0 23 "LeafTurner$Book" "printed" "LLeafTurner$Numbers;", Cond.methodLink RX0 44 yX3_copyFrom, Cond.instanceMethod yX3_copyFrom, Cond.selects RX3 yX3_copyFrom yX3_copyFrom, Cond.code yX3_copyFrom cX3_copyFrom 2 none, Cond.methodLink RX3 37 Lib.Math.min.name, Cond.static Lib.Math.min.name, Cond.initialized "java/lang/Math", Cond.code Lib.Math.min.name Lib.Math.min.code 2 (some .int), Cond.methodLink RX3 31 arraycopyName, Cond.native arraycopyName, Cond.static arraycopyName, Cond.initialized "java/lang/System", Cond.methodLink RX6 50 yX5_copyFrom, Cond.instanceMethod yX5_copyFrom, Cond.selects RX5 yX5_copyFrom yX5_copyFrom, Cond.initialized RX5, Cond.code yX5_copyFrom cX5_copyFrom 2 none]
def wsX7_print_r4 : List Cond := [Cond.fieldLink RX5 14 "LeafTurner$Pictures" "pages" "LLeafTurner$Numbers;", Cond.fieldLink RX5 20 "LeafTurner$Pictures" "numbers" "LLeafTurner$Numbers;", Cond.fieldLink RX5 23 "LeafTurner$Pictures" "gutters" "LLeafTurner$Numbers;", Cond.fieldLink RX5 26 "LeafTurner$Pictures" "pairs" "LLeafTurner$Numbers;", Cond.fieldLink RX5 29 "LeafTurner$Pictures" "size" "I", Cond.methodLink RX5 52 yX3_copyFrom, Cond.methodLink RX6 53 yX3_copyFrom, Cond.methodLink RX7 90 yX3_put, Cond.instanceMethod yX3_put, Cond.selects RX3 yX3_put yX3_put, Cond.code yX3_put cX3_put 3 none]
def wsX7_print : List Cond := .code yX7_print cX7_print 4 (some .int) :: ((wsX7_print_r1 ++ (wsX7_print_r2 ++ (wsX7_print_r3 ++ wsX7_print_r4))) ++ wsX70 ++ wsX60 ++ wsX00 ++ wsX30 ++ wsX20 ++ wsX50)
def wsX7_turn_r1 : List Cond := [Cond.fieldLink RX7 10 "LeafTurner" "now" "LLeafTurner$State;", Cond.fieldLink RX7 25 "LeafTurner" "history" "LLeafTurner$History;", Cond.methodLink RX7 94 yX6_leavesOnRight, Cond.instanceMethod yX6_leavesOnRight, Cond.selects RX6 yX6_leavesOnRight yX6_leavesOnRight, Cond.initialized RX6, Cond.code yX6_leavesOnRight cX6_leavesOnRight 1 (some .int), Cond.fieldLink RX6 12 "LeafTurner$State" "book" "LLeafTurner$Book;", Cond.fieldLink RX6 56 "LeafTurner$State" "left" "I", Cond.methodLink RX7 55 yX2_record, Cond.instanceMethod yX2_record, Cond.selects RX2 yX2_record yX2_record, Cond.initialized RX2, Cond.code yX2_record cX2_record 2 none, Cond.fieldLink RX2 18 "LeafTurner$History" "size" "I", Cond.fieldLink RX2 11 "LeafTurner$History" "states" "[LLeafTurner$State;", Cond.methodLink RX2 22 yX2_dropOldest, Cond.instanceMethod yX2_dropOldest, Cond.selects RX2 yX2_dropOldest yX2_dropOldest, Cond.code yX2_dropOldest cX2_dropOldest 3 none, Cond.methodLink RX2 25 yX6_copyFrom, Cond.instanceMethod yX6_copyFrom, Cond.selects RX6 yX6_copyFrom yX6_copyFrom, Cond.code yX6_copyFrom cX6_copyFrom 2 none]
def wsX7_turn_r2 : List Cond := [Cond.fieldLink RX6 21 "LeafTurner$State" "pictures" "LLeafTurner$Pictures;", Cond.fieldLink RX6 34 "LeafTurner$State" "settings" "LLeafTurner$Numbers;", Cond.fieldLink RX6 42 "LeafTurner$State" "suction" "I", Cond.fieldLink RX6 59 "LeafTurner$State" "turnings" "I", Cond.fieldLink RX6 62 "LeafTurner$State" "turningsOfMore" "I", Cond.fieldLink RX6 65 "LeafTurner$State" "turningsOfNone" "I", Cond.fieldLink RX6 68 "LeafTurner$State" "singlesInRow" "I", Cond.fieldLink RX6 71 "LeafTurner$State" "pairs" "I", Cond.methodLink RX6 46 yX0_copyFrom, Cond.instanceMethod yX0_copyFrom, Cond.selects RX0 yX0_copyFrom yX0_copyFrom, Cond.initialized RX0, Cond.code yX0_copyFrom cX0_copyFrom 2 none, Cond.fieldLink RX0 14 "LeafTurner$Book" "weights" "LLeafTurner$Numbers;", Cond.fieldLink RX0 20 "LeafTurner$Book" "strengths" "LLeafTurner$Numbers;", Cond.fieldLink RX0 23 "LeafTurner$Book" "printed" "LLeafTurner$Numbers;", Cond.fieldLink RX0 26 "LeafTurner$Book" "leaves" "I", Cond.methodLink RX0 44 yX3_copyFrom, Cond.instanceMethod yX3_copyFrom, Cond.selects RX3 yX3_copyFrom yX3_copyFrom, Cond.initialized RX3, Cond.code yX3_copyFrom cX3_copyFrom 2 none, Cond.fieldLink RX3 15 "LeafTurner$Numbers" "cells" "[I", Cond.methodLink RX3 37 Lib.Math.min.name]
def wsX7_turn_r3 : List Cond := [Cond.static Lib.Math.min.name, Cond.initialized "java/lang/Math", Cond.code Lib.Math.min.name Lib.Math.min.code 2 (some .int), Cond.methodLink RX3 31 arraycopyName, Cond.native arraycopyName, Cond.static arraycopyName, Cond.initialized "java/lang/System", Cond.methodLink RX6 50 yX5_copyFrom, Cond.instanceMethod yX5_copyFrom, Cond.selects RX5 yX5_copyFrom yX5_copyFrom, Cond.initialized RX5, Cond.code yX5_copyFrom cX5_copyFrom 2 none, Cond.fieldLink RX5 14 "LeafTurner$Pictures" "pages" "LLeafTurner$Numbers;", Cond.fieldLink RX5 20 "LeafTurner$Pictures" "numbers" "LLeafTurner$Numbers;", Cond.fieldLink RX5 23 "LeafTurner$Pictures" "gutters" "LLeafTurner$Numbers;", Cond.fieldLink RX5 26 "LeafTurner$Pictures" "pairs" "LLeafTurner$Numbers;", Cond.fieldLink RX5 29 "LeafTurner$Pictures" "size" "I", Cond.methodLink RX5 52 yX3_copyFrom, Cond.methodLink RX6 53 yX3_copyFrom, Cond.methodLink RX7 98 yX6_turnOnce, Cond.instanceMethod yX6_turnOnce, Cond.selects RX6 yX6_turnOnce yX6_turnOnce, Cond.code yX6_turnOnce cX6_turnOnce 2 (some .int), Cond.methodLink RX6 94 yX6_liftedBy]
def wsX7_turn_r4 : List Cond := [Cond.instanceMethod yX6_liftedBy, Cond.selects RX6 yX6_liftedBy yX6_liftedBy, Cond.code yX6_liftedBy cX6_liftedBy 6 (some .int), Cond.methodLink RX6 87 yX3_at, Cond.instanceMethod yX3_at, Cond.selects RX3 yX3_at yX3_at, Cond.code yX3_at cX3_at 2 (some .int), Cond.methodLink RX3 21 yX3_has, Cond.instanceMethod yX3_has, Cond.selects RX3 yX3_has yX3_has, Cond.code yX3_has cX3_has 2 (some .boolean), Cond.methodLink RX6 97 yX6_learnFrom, Cond.instanceMethod yX6_learnFrom, Cond.selects RX6 yX6_learnFrom yX6_learnFrom, Cond.code yX6_learnFrom cX6_learnFrom 3 none, Cond.methodLink RX6 100 Lib.Math.min.name, Cond.methodLink RX6 106 Lib.Math.max.name, Cond.static Lib.Math.max.name, Cond.code Lib.Math.max.name Lib.Math.max.code 2 (some .int)]
def wsX7_turn : List Cond := .code yX7_turn cX7_turn 1 (some .int) :: ((wsX7_turn_r1 ++ (wsX7_turn_r2 ++ (wsX7_turn_r3 ++ wsX7_turn_r4))) ++ wsX70 ++ wsX60 ++ wsX00 ++ wsX20 ++ wsX30 ++ wsX50)
def wsX7_turnBack_r1 : List Cond := [Cond.fieldLink RX7 10 "LeafTurner" "now" "LLeafTurner$State;", Cond.fieldLink RX7 25 "LeafTurner" "history" "LLeafTurner$History;", Cond.methodLink RX7 55 yX2_record, Cond.instanceMethod yX2_record, Cond.selects RX2 yX2_record yX2_record, Cond.initialized RX2, Cond.code yX2_record cX2_record 2 none, Cond.fieldLink RX2 18 "LeafTurner$History" "size" "I", Cond.fieldLink RX2 11 "LeafTurner$History" "states" "[LLeafTurner$State;", Cond.methodLink RX2 22 yX2_dropOldest, Cond.instanceMethod yX2_dropOldest, Cond.selects RX2 yX2_dropOldest yX2_dropOldest, Cond.code yX2_dropOldest cX2_dropOldest 3 none, Cond.methodLink RX2 25 yX6_copyFrom, Cond.instanceMethod yX6_copyFrom, Cond.selects RX6 yX6_copyFrom yX6_copyFrom, Cond.initialized RX6, Cond.code yX6_copyFrom cX6_copyFrom 2 none, Cond.fieldLink RX6 12 "LeafTurner$State" "book" "LLeafTurner$Book;", Cond.fieldLink RX6 21 "LeafTurner$State" "pictures" "LLeafTurner$Pictures;", Cond.fieldLink RX6 34 "LeafTurner$State" "settings" "LLeafTurner$Numbers;", Cond.fieldLink RX6 56 "LeafTurner$State" "left" "I", Cond.fieldLink RX6 42 "LeafTurner$State" "suction" "I", Cond.fieldLink RX6 59 "LeafTurner$State" "turnings" "I"]
def wsX7_turnBack_r2 : List Cond := [Cond.fieldLink RX6 62 "LeafTurner$State" "turningsOfMore" "I", Cond.fieldLink RX6 65 "LeafTurner$State" "turningsOfNone" "I", Cond.fieldLink RX6 68 "LeafTurner$State" "singlesInRow" "I", Cond.fieldLink RX6 71 "LeafTurner$State" "pairs" "I", Cond.methodLink RX6 46 yX0_copyFrom, Cond.instanceMethod yX0_copyFrom, Cond.selects RX0 yX0_copyFrom yX0_copyFrom, Cond.initialized RX0, Cond.code yX0_copyFrom cX0_copyFrom 2 none, Cond.fieldLink RX0 14 "LeafTurner$Book" "weights" "LLeafTurner$Numbers;", Cond.fieldLink RX0 20 "LeafTurner$Book" "strengths" "LLeafTurner$Numbers;", Cond.fieldLink RX0 23 "LeafTurner$Book" "printed" "LLeafTurner$Numbers;", Cond.fieldLink RX0 26 "LeafTurner$Book" "leaves" "I", Cond.methodLink RX0 44 yX3_copyFrom, Cond.instanceMethod yX3_copyFrom, Cond.selects RX3 yX3_copyFrom yX3_copyFrom, Cond.initialized RX3, Cond.code yX3_copyFrom cX3_copyFrom 2 none, Cond.fieldLink RX3 15 "LeafTurner$Numbers" "cells" "[I", Cond.methodLink RX3 37 Lib.Math.min.name, Cond.static Lib.Math.min.name, Cond.initialized "java/lang/Math", Cond.code Lib.Math.min.name Lib.Math.min.code 2 (some .int), Cond.methodLink RX3 31 arraycopyName]
def wsX7_turnBack_r3 : List Cond := [Cond.native arraycopyName, Cond.static arraycopyName, Cond.initialized "java/lang/System", Cond.methodLink RX6 50 yX5_copyFrom, Cond.instanceMethod yX5_copyFrom, Cond.selects RX5 yX5_copyFrom yX5_copyFrom, Cond.initialized RX5, Cond.code yX5_copyFrom cX5_copyFrom 2 none, Cond.fieldLink RX5 14 "LeafTurner$Pictures" "pages" "LLeafTurner$Numbers;", Cond.fieldLink RX5 20 "LeafTurner$Pictures" "numbers" "LLeafTurner$Numbers;", Cond.fieldLink RX5 23 "LeafTurner$Pictures" "gutters" "LLeafTurner$Numbers;", Cond.fieldLink RX5 26 "LeafTurner$Pictures" "pairs" "LLeafTurner$Numbers;", Cond.fieldLink RX5 29 "LeafTurner$Pictures" "size" "I", Cond.methodLink RX5 52 yX3_copyFrom, Cond.methodLink RX6 53 yX3_copyFrom]
def wsX7_turnBack : List Cond := .code yX7_turnBack cX7_turnBack 1 (some .int) :: ((wsX7_turnBack_r1 ++ (wsX7_turnBack_r2 ++ wsX7_turnBack_r3)) ++ wsX70 ++ wsX60 ++ wsX20 ++ wsX00 ++ wsX30 ++ wsX50)
def wsX7_shoot_r1 : List Cond := [Cond.fieldLink RX7 10 "LeafTurner" "now" "LLeafTurner$State;", Cond.fieldLink RX7 25 "LeafTurner" "history" "LLeafTurner$History;", Cond.methodLink RX7 104 yX6_hasBook, Cond.instanceMethod yX6_hasBook, Cond.selects RX6 yX6_hasBook yX6_hasBook, Cond.initialized RX6, Cond.code yX6_hasBook cX6_hasBook 1 (some .boolean), Cond.fieldLink RX6 12 "LeafTurner$State" "book" "LLeafTurner$Book;", Cond.methodLink RX7 108 yX6_hasRoomForPair, Cond.instanceMethod yX6_hasRoomForPair, Cond.selects RX6 yX6_hasRoomForPair yX6_hasRoomForPair, Cond.code yX6_hasRoomForPair cX6_hasRoomForPair 1 (some .boolean), Cond.fieldLink RX6 21 "LeafTurner$State" "pictures" "LLeafTurner$Pictures;", Cond.methodLink RX6 123 yX6_pagesOpen, Cond.instanceMethod yX6_pagesOpen, Cond.selects RX6 yX6_pagesOpen yX6_pagesOpen, Cond.code yX6_pagesOpen cX6_pagesOpen 1 (some .int), Cond.methodLink RX6 113 yX6_openOnLeft, Cond.instanceMethod yX6_openOnLeft, Cond.selects RX6 yX6_openOnLeft yX6_openOnLeft, Cond.code yX6_openOnLeft cX6_openOnLeft 1 (some .int), Cond.fieldLink RX6 56 "LeafTurner$State" "left" "I", Cond.static yX7_asNumber, Cond.initialized RX7]
def wsX7_shoot_r2 : List Cond := [Cond.code yX7_asNumber cX7_asNumber 1 (some .int), Cond.methodLink RX6 120 yX6_openOnRight, Cond.instanceMethod yX6_openOnRight, Cond.selects RX6 yX6_openOnRight yX6_openOnRight, Cond.code yX6_openOnRight cX6_openOnRight 1 (some .int), Cond.methodLink RX6 80 yX6_leavesOnRight, Cond.instanceMethod yX6_leavesOnRight, Cond.selects RX6 yX6_leavesOnRight yX6_leavesOnRight, Cond.code yX6_leavesOnRight cX6_leavesOnRight 1 (some .int), Cond.methodLink RX7 55 yX2_record, Cond.instanceMethod yX2_record, Cond.selects RX2 yX2_record yX2_record, Cond.initialized RX2, Cond.code yX2_record cX2_record 2 none, Cond.fieldLink RX2 18 "LeafTurner$History" "size" "I", Cond.fieldLink RX2 11 "LeafTurner$History" "states" "[LLeafTurner$State;", Cond.methodLink RX2 22 yX2_dropOldest, Cond.instanceMethod yX2_dropOldest, Cond.selects RX2 yX2_dropOldest yX2_dropOldest, Cond.code yX2_dropOldest cX2_dropOldest 3 none, Cond.methodLink RX2 25 yX6_copyFrom, Cond.instanceMethod yX6_copyFrom, Cond.selects RX6 yX6_copyFrom yX6_copyFrom, Cond.code yX6_copyFrom cX6_copyFrom 2 none]
def wsX7_shoot_r3 : List Cond := [Cond.fieldLink RX6 34 "LeafTurner$State" "settings" "LLeafTurner$Numbers;", Cond.fieldLink RX6 42 "LeafTurner$State" "suction" "I", Cond.fieldLink RX6 59 "LeafTurner$State" "turnings" "I", Cond.fieldLink RX6 62 "LeafTurner$State" "turningsOfMore" "I", Cond.fieldLink RX6 65 "LeafTurner$State" "turningsOfNone" "I", Cond.fieldLink RX6 68 "LeafTurner$State" "singlesInRow" "I", Cond.fieldLink RX6 71 "LeafTurner$State" "pairs" "I", Cond.methodLink RX6 46 yX0_copyFrom, Cond.instanceMethod yX0_copyFrom, Cond.selects RX0 yX0_copyFrom yX0_copyFrom, Cond.initialized RX0, Cond.code yX0_copyFrom cX0_copyFrom 2 none, Cond.fieldLink RX0 14 "LeafTurner$Book" "weights" "LLeafTurner$Numbers;", Cond.fieldLink RX0 20 "LeafTurner$Book" "strengths" "LLeafTurner$Numbers;", Cond.fieldLink RX0 23 "LeafTurner$Book" "printed" "LLeafTurner$Numbers;", Cond.fieldLink RX0 26 "LeafTurner$Book" "leaves" "I", Cond.methodLink RX0 44 yX3_copyFrom, Cond.instanceMethod yX3_copyFrom, Cond.selects RX3 yX3_copyFrom yX3_copyFrom, Cond.initialized RX3, Cond.code yX3_copyFrom cX3_copyFrom 2 none, Cond.fieldLink RX3 15 "LeafTurner$Numbers" "cells" "[I", Cond.methodLink RX3 37 Lib.Math.min.name, Cond.static Lib.Math.min.name]
def wsX7_shoot_r4 : List Cond := [Cond.initialized "java/lang/Math", Cond.code Lib.Math.min.name Lib.Math.min.code 2 (some .int), Cond.methodLink RX3 31 arraycopyName, Cond.native arraycopyName, Cond.static arraycopyName, Cond.initialized "java/lang/System", Cond.methodLink RX6 50 yX5_copyFrom, Cond.instanceMethod yX5_copyFrom, Cond.selects RX5 yX5_copyFrom yX5_copyFrom, Cond.initialized RX5, Cond.code yX5_copyFrom cX5_copyFrom 2 none, Cond.fieldLink RX5 14 "LeafTurner$Pictures" "pages" "LLeafTurner$Numbers;", Cond.fieldLink RX5 20 "LeafTurner$Pictures" "numbers" "LLeafTurner$Numbers;", Cond.fieldLink RX5 23 "LeafTurner$Pictures" "gutters" "LLeafTurner$Numbers;", Cond.fieldLink RX5 26 "LeafTurner$Pictures" "pairs" "LLeafTurner$Numbers;", Cond.fieldLink RX5 29 "LeafTurner$Pictures" "size" "I", Cond.methodLink RX5 52 yX3_copyFrom, Cond.methodLink RX6 53 yX3_copyFrom, Cond.methodLink RX7 111 yX6_takePair, Cond.instanceMethod yX6_takePair, Cond.selects RX6 yX6_takePair yX6_takePair, Cond.code yX6_takePair cX6_takePair 2 (some .int), Cond.methodLink RX6 126 yX6_takePicture, Cond.instanceMethod yX6_takePicture]
def wsX7_shoot_r5 : List Cond := [Cond.selects RX6 yX6_takePicture yX6_takePicture, Cond.code yX6_takePicture cX6_takePicture 4 none, Cond.methodLink RX6 129 yX6_gutterIsGood, Cond.instanceMethod yX6_gutterIsGood, Cond.selects RX6 yX6_gutterIsGood yX6_gutterIsGood, Cond.code yX6_gutterIsGood cX6_gutterIsGood 5 (some .boolean), Cond.static yX7_isRightPage, Cond.code yX7_isRightPage cX7_isRightPage 1 (some .boolean), Cond.methodLink RX6 87 yX3_at, Cond.instanceMethod yX3_at, Cond.selects RX3 yX3_at yX3_at, Cond.code yX3_at cX3_at 2 (some .int), Cond.methodLink RX3 21 yX3_has, Cond.instanceMethod yX3_has, Cond.selects RX3 yX3_has yX3_has, Cond.code yX3_has cX3_has 2 (some .boolean), Cond.methodLink RX6 135 yX5_add, Cond.instanceMethod yX5_add, Cond.selects RX5 yX5_add yX5_add, Cond.code yX5_add cX5_add 5 none, Cond.methodLink RX5 37 yX3_put, Cond.instanceMethod yX3_put, Cond.selects RX3 yX3_put yX3_put, Cond.code yX3_put cX3_put 3 none]
def wsX7_shoot : List Cond := .code yX7_shoot cX7_shoot 1 (some .int) :: ((wsX7_shoot_r1 ++ (wsX7_shoot_r2 ++ (wsX7_shoot_r3 ++ (wsX7_shoot_r4 ++ wsX7_shoot_r5)))) ++ wsX70 ++ wsX60 ++ wsX00 ++ wsX50 ++ wsX20 ++ wsX30)
def wsX7_scan_r1 : List Cond := [Cond.fieldLink RX7 10 "LeafTurner" "now" "LLeafTurner$State;", Cond.fieldLink RX7 16 "LeafTurner" "trial" "LLeafTurner$State;", Cond.fieldLink RX7 25 "LeafTurner" "history" "LLeafTurner$History;", Cond.methodLink RX7 104 yX6_hasBook, Cond.instanceMethod yX6_hasBook, Cond.selects RX6 yX6_hasBook yX6_hasBook, Cond.initialized RX6, Cond.code yX6_hasBook cX6_hasBook 1 (some .boolean), Cond.fieldLink RX6 12 "LeafTurner$State" "book" "LLeafTurner$Book;", Cond.methodLink RX7 114 yX6_copyFrom, Cond.instanceMethod yX6_copyFrom, Cond.selects RX6 yX6_copyFrom yX6_copyFrom, Cond.code yX6_copyFrom cX6_copyFrom 2 none, Cond.fieldLink RX6 21 "LeafTurner$State" "pictures" "LLeafTurner$Pictures;", Cond.fieldLink RX6 34 "LeafTurner$State" "settings" "LLeafTurner$Numbers;", Cond.fieldLink RX6 56 "LeafTurner$State" "left" "I", Cond.fieldLink RX6 42 "LeafTurner$State" "suction" "I", Cond.fieldLink RX6 59 "LeafTurner$State" "turnings" "I", Cond.fieldLink RX6 62 "LeafTurner$State" "turningsOfMore" "I", Cond.fieldLink RX6 65 "LeafTurner$State" "turningsOfNone" "I", Cond.fieldLink RX6 68 "LeafTurner$State" "singlesInRow" "I", Cond.fieldLink RX6 71 "LeafTurner$State" "pairs" "I", Cond.methodLink RX6 46 yX0_copyFrom, Cond.instanceMethod yX0_copyFrom]
def wsX7_scan_r2 : List Cond := [Cond.selects RX0 yX0_copyFrom yX0_copyFrom, Cond.initialized RX0, Cond.code yX0_copyFrom cX0_copyFrom 2 none, Cond.fieldLink RX0 14 "LeafTurner$Book" "weights" "LLeafTurner$Numbers;", Cond.fieldLink RX0 20 "LeafTurner$Book" "strengths" "LLeafTurner$Numbers;", Cond.fieldLink RX0 23 "LeafTurner$Book" "printed" "LLeafTurner$Numbers;", Cond.fieldLink RX0 26 "LeafTurner$Book" "leaves" "I", Cond.methodLink RX0 44 yX3_copyFrom, Cond.instanceMethod yX3_copyFrom, Cond.selects RX3 yX3_copyFrom yX3_copyFrom, Cond.initialized RX3, Cond.code yX3_copyFrom cX3_copyFrom 2 none, Cond.fieldLink RX3 15 "LeafTurner$Numbers" "cells" "[I", Cond.methodLink RX3 37 Lib.Math.min.name, Cond.static Lib.Math.min.name, Cond.initialized "java/lang/Math", Cond.code Lib.Math.min.name Lib.Math.min.code 2 (some .int), Cond.methodLink RX3 31 arraycopyName, Cond.native arraycopyName, Cond.static arraycopyName, Cond.initialized "java/lang/System", Cond.methodLink RX6 50 yX5_copyFrom, Cond.instanceMethod yX5_copyFrom, Cond.selects RX5 yX5_copyFrom yX5_copyFrom]
def wsX7_scan_r3 : List Cond := [Cond.initialized RX5, Cond.code yX5_copyFrom cX5_copyFrom 2 none, Cond.fieldLink RX5 14 "LeafTurner$Pictures" "pages" "LLeafTurner$Numbers;", Cond.fieldLink RX5 20 "LeafTurner$Pictures" "numbers" "LLeafTurner$Numbers;", Cond.fieldLink RX5 23 "LeafTurner$Pictures" "gutters" "LLeafTurner$Numbers;", Cond.fieldLink RX5 26 "LeafTurner$Pictures" "pairs" "LLeafTurner$Numbers;", Cond.fieldLink RX5 29 "LeafTurner$Pictures" "size" "I", Cond.methodLink RX5 52 yX3_copyFrom, Cond.methodLink RX6 53 yX3_copyFrom, Cond.methodLink RX7 116 yX6_takeAndTurn, Cond.instanceMethod yX6_takeAndTurn, Cond.selects RX6 yX6_takeAndTurn yX6_takeAndTurn, Cond.code yX6_takeAndTurn cX6_takeAndTurn 4 (some .int), Cond.methodLink RX6 80 yX6_leavesOnRight, Cond.instanceMethod yX6_leavesOnRight, Cond.selects RX6 yX6_leavesOnRight yX6_leavesOnRight, Cond.code yX6_leavesOnRight cX6_leavesOnRight 1 (some .int), Cond.methodLink RX6 139 yX6_hasRoomForPair, Cond.instanceMethod yX6_hasRoomForPair, Cond.selects RX6 yX6_hasRoomForPair yX6_hasRoomForPair, Cond.code yX6_hasRoomForPair cX6_hasRoomForPair 1 (some .boolean), Cond.methodLink RX6 123 yX6_pagesOpen, Cond.instanceMethod yX6_pagesOpen, Cond.selects RX6 yX6_pagesOpen yX6_pagesOpen]
def wsX7_scan_r4 : List Cond := [Cond.code yX6_pagesOpen cX6_pagesOpen 1 (some .int), Cond.methodLink RX6 113 yX6_openOnLeft, Cond.instanceMethod yX6_openOnLeft, Cond.selects RX6 yX6_openOnLeft yX6_openOnLeft, Cond.code yX6_openOnLeft cX6_openOnLeft 1 (some .int), Cond.static yX7_asNumber, Cond.initialized RX7, Cond.code yX7_asNumber cX7_asNumber 1 (some .int), Cond.methodLink RX6 120 yX6_openOnRight, Cond.instanceMethod yX6_openOnRight, Cond.selects RX6 yX6_openOnRight yX6_openOnRight, Cond.code yX6_openOnRight cX6_openOnRight 1 (some .int), Cond.methodLink RX6 143 yX6_takePair, Cond.instanceMethod yX6_takePair, Cond.selects RX6 yX6_takePair yX6_takePair, Cond.code yX6_takePair cX6_takePair 2 (some .int), Cond.methodLink RX6 126 yX6_takePicture, Cond.instanceMethod yX6_takePicture, Cond.selects RX6 yX6_takePicture yX6_takePicture, Cond.code yX6_takePicture cX6_takePicture 4 none, Cond.methodLink RX6 129 yX6_gutterIsGood, Cond.instanceMethod yX6_gutterIsGood, Cond.selects RX6 yX6_gutterIsGood yX6_gutterIsGood, Cond.code yX6_gutterIsGood cX6_gutterIsGood 5 (some .boolean)]
def wsX7_scan_r5 : List Cond := [Cond.static yX7_isRightPage, Cond.code yX7_isRightPage cX7_isRightPage 1 (some .boolean), Cond.methodLink RX6 87 yX3_at, Cond.instanceMethod yX3_at, Cond.selects RX3 yX3_at yX3_at, Cond.code yX3_at cX3_at 2 (some .int), Cond.methodLink RX3 21 yX3_has, Cond.instanceMethod yX3_has, Cond.selects RX3 yX3_has yX3_has, Cond.code yX3_has cX3_has 2 (some .boolean), Cond.methodLink RX6 135 yX5_add, Cond.instanceMethod yX5_add, Cond.selects RX5 yX5_add yX5_add, Cond.code yX5_add cX5_add 5 none, Cond.methodLink RX5 37 yX3_put, Cond.instanceMethod yX3_put, Cond.selects RX3 yX3_put yX3_put, Cond.code yX3_put cX3_put 3 none, Cond.methodLink RX6 146 yX6_turnOnce, Cond.instanceMethod yX6_turnOnce, Cond.selects RX6 yX6_turnOnce yX6_turnOnce, Cond.code yX6_turnOnce cX6_turnOnce 2 (some .int), Cond.methodLink RX6 94 yX6_liftedBy, Cond.instanceMethod yX6_liftedBy]
def wsX7_scan_r6 : List Cond := [Cond.selects RX6 yX6_liftedBy yX6_liftedBy, Cond.code yX6_liftedBy cX6_liftedBy 6 (some .int), Cond.methodLink RX6 97 yX6_learnFrom, Cond.instanceMethod yX6_learnFrom, Cond.selects RX6 yX6_learnFrom yX6_learnFrom, Cond.code yX6_learnFrom cX6_learnFrom 3 none, Cond.methodLink RX6 100 Lib.Math.min.name, Cond.methodLink RX6 106 Lib.Math.max.name, Cond.static Lib.Math.max.name, Cond.code Lib.Math.max.name Lib.Math.max.code 2 (some .int), Cond.methodLink RX7 55 yX2_record, Cond.instanceMethod yX2_record, Cond.selects RX2 yX2_record yX2_record, Cond.initialized RX2, Cond.code yX2_record cX2_record 2 none, Cond.fieldLink RX2 18 "LeafTurner$History" "size" "I", Cond.fieldLink RX2 11 "LeafTurner$History" "states" "[LLeafTurner$State;", Cond.methodLink RX2 22 yX2_dropOldest, Cond.instanceMethod yX2_dropOldest, Cond.selects RX2 yX2_dropOldest yX2_dropOldest, Cond.code yX2_dropOldest cX2_dropOldest 3 none, Cond.methodLink RX2 25 yX6_copyFrom]
def wsX7_scan : List Cond := .code yX7_scan cX7_scan 3 (some .int) :: ((wsX7_scan_r1 ++ (wsX7_scan_r2 ++ (wsX7_scan_r3 ++ (wsX7_scan_r4 ++ (wsX7_scan_r5 ++ wsX7_scan_r6))))) ++ wsX70 ++ wsX60 ++ wsX00 ++ wsX30 ++ wsX50 ++ wsX20)
def wsX7_throwAway_r1 : List Cond := [Cond.fieldLink RX7 10 "LeafTurner" "now" "LLeafTurner$State;", Cond.fieldLink RX7 25 "LeafTurner" "history" "LLeafTurner$History;", Cond.methodLink RX7 123 yX5_has, Cond.instanceMethod yX5_has, Cond.selects RX5 yX5_has yX5_has, Cond.initialized RX5, Cond.code yX5_has cX5_has 2 (some .boolean), Cond.fieldLink RX5 29 "LeafTurner$Pictures" "size" "I", Cond.methodLink RX7 55 yX2_record, Cond.instanceMethod yX2_record, Cond.selects RX2 yX2_record yX2_record, Cond.initialized RX2, Cond.code yX2_record cX2_record 2 none, Cond.fieldLink RX2 18 "LeafTurner$History" "size" "I", Cond.fieldLink RX2 11 "LeafTurner$History" "states" "[LLeafTurner$State;", Cond.methodLink RX2 22 yX2_dropOldest, Cond.instanceMethod yX2_dropOldest, Cond.selects RX2 yX2_dropOldest yX2_dropOldest, Cond.code yX2_dropOldest cX2_dropOldest 3 none, Cond.methodLink RX2 25 yX6_copyFrom, Cond.instanceMethod yX6_copyFrom, Cond.selects RX6 yX6_copyFrom yX6_copyFrom, Cond.initialized RX6, Cond.code yX6_copyFrom cX6_copyFrom 2 none]
def wsX7_throwAway_r2 : List Cond := [Cond.fieldLink RX6 12 "LeafTurner$State" "book" "LLeafTurner$Book;", Cond.fieldLink RX6 21 "LeafTurner$State" "pictures" "LLeafTurner$Pictures;", Cond.fieldLink RX6 34 "LeafTurner$State" "settings" "LLeafTurner$Numbers;", Cond.fieldLink RX6 56 "LeafTurner$State" "left" "I", Cond.fieldLink RX6 42 "LeafTurner$State" "suction" "I", Cond.fieldLink RX6 59 "LeafTurner$State" "turnings" "I", Cond.fieldLink RX6 62 "LeafTurner$State" "turningsOfMore" "I", Cond.fieldLink RX6 65 "LeafTurner$State" "turningsOfNone" "I", Cond.fieldLink RX6 68 "LeafTurner$State" "singlesInRow" "I", Cond.fieldLink RX6 71 "LeafTurner$State" "pairs" "I", Cond.methodLink RX6 46 yX0_copyFrom, Cond.instanceMethod yX0_copyFrom, Cond.selects RX0 yX0_copyFrom yX0_copyFrom, Cond.initialized RX0, Cond.code yX0_copyFrom cX0_copyFrom 2 none, Cond.fieldLink RX0 14 "LeafTurner$Book" "weights" "LLeafTurner$Numbers;", Cond.fieldLink RX0 20 "LeafTurner$Book" "strengths" "LLeafTurner$Numbers;", Cond.fieldLink RX0 23 "LeafTurner$Book" "printed" "LLeafTurner$Numbers;", Cond.fieldLink RX0 26 "LeafTurner$Book" "leaves" "I", Cond.methodLink RX0 44 yX3_copyFrom, Cond.instanceMethod yX3_copyFrom, Cond.selects RX3 yX3_copyFrom yX3_copyFrom, Cond.initialized RX3, Cond.code yX3_copyFrom cX3_copyFrom 2 none]
def wsX7_throwAway_r3 : List Cond := [Cond.fieldLink RX3 15 "LeafTurner$Numbers" "cells" "[I", Cond.methodLink RX3 37 Lib.Math.min.name, Cond.static Lib.Math.min.name, Cond.initialized "java/lang/Math", Cond.code Lib.Math.min.name Lib.Math.min.code 2 (some .int), Cond.methodLink RX3 31 arraycopyName, Cond.native arraycopyName, Cond.static arraycopyName, Cond.initialized "java/lang/System", Cond.methodLink RX6 50 yX5_copyFrom, Cond.instanceMethod yX5_copyFrom, Cond.selects RX5 yX5_copyFrom yX5_copyFrom, Cond.code yX5_copyFrom cX5_copyFrom 2 none, Cond.fieldLink RX5 14 "LeafTurner$Pictures" "pages" "LLeafTurner$Numbers;", Cond.fieldLink RX5 20 "LeafTurner$Pictures" "numbers" "LLeafTurner$Numbers;", Cond.fieldLink RX5 23 "LeafTurner$Pictures" "gutters" "LLeafTurner$Numbers;", Cond.fieldLink RX5 26 "LeafTurner$Pictures" "pairs" "LLeafTurner$Numbers;", Cond.methodLink RX5 52 yX3_copyFrom, Cond.methodLink RX6 53 yX3_copyFrom, Cond.methodLink RX7 128 yX5_removeAt, Cond.instanceMethod yX5_removeAt, Cond.selects RX5 yX5_removeAt yX5_removeAt, Cond.code yX5_removeAt cX5_removeAt 2 none, Cond.methodLink RX5 45 yX5_has]
def wsX7_throwAway_r4 : List Cond := [Cond.methodLink RX5 49 yX3_removeAt, Cond.instanceMethod yX3_removeAt, Cond.selects RX3 yX3_removeAt yX3_removeAt, Cond.code yX3_removeAt cX3_removeAt 2 none, Cond.methodLink RX3 21 yX3_has, Cond.instanceMethod yX3_has, Cond.selects RX3 yX3_has yX3_has, Cond.code yX3_has cX3_has 2 (some .boolean)]
def wsX7_throwAway : List Cond := .code yX7_throwAway cX7_throwAway 2 (some .int) :: ((wsX7_throwAway_r1 ++ (wsX7_throwAway_r2 ++ (wsX7_throwAway_r3 ++ wsX7_throwAway_r4))) ++ wsX70 ++ wsX60 ++ wsX50 ++ wsX20 ++ wsX00 ++ wsX30)
def wsX7_isSuction : List Cond := .code yX7_isSuction cX7_isSuction 1 (some .boolean) :: ([])
def wsX7_setSuction_r1 : List Cond := [Cond.fieldLink RX7 10 "LeafTurner" "now" "LLeafTurner$State;", Cond.fieldLink RX7 25 "LeafTurner" "history" "LLeafTurner$History;", Cond.methodLink RX7 135 yX7_isSuction, Cond.static yX7_isSuction, Cond.initialized RX7, Cond.code yX7_isSuction cX7_isSuction 1 (some .boolean), Cond.methodLink RX7 55 yX2_record, Cond.instanceMethod yX2_record, Cond.selects RX2 yX2_record yX2_record, Cond.initialized RX2, Cond.code yX2_record cX2_record 2 none, Cond.fieldLink RX2 18 "LeafTurner$History" "size" "I", Cond.fieldLink RX2 11 "LeafTurner$History" "states" "[LLeafTurner$State;", Cond.methodLink RX2 22 yX2_dropOldest, Cond.instanceMethod yX2_dropOldest, Cond.selects RX2 yX2_dropOldest yX2_dropOldest, Cond.code yX2_dropOldest cX2_dropOldest 3 none, Cond.methodLink RX2 25 yX6_copyFrom, Cond.instanceMethod yX6_copyFrom, Cond.selects RX6 yX6_copyFrom yX6_copyFrom, Cond.initialized RX6, Cond.code yX6_copyFrom cX6_copyFrom 2 none, Cond.fieldLink RX6 12 "LeafTurner$State" "book" "LLeafTurner$Book;", Cond.fieldLink RX6 21 "LeafTurner$State" "pictures" "LLeafTurner$Pictures;"]
def wsX7_setSuction_r2 : List Cond := [Cond.fieldLink RX6 34 "LeafTurner$State" "settings" "LLeafTurner$Numbers;", Cond.fieldLink RX6 56 "LeafTurner$State" "left" "I", Cond.fieldLink RX6 42 "LeafTurner$State" "suction" "I", Cond.fieldLink RX6 59 "LeafTurner$State" "turnings" "I", Cond.fieldLink RX6 62 "LeafTurner$State" "turningsOfMore" "I", Cond.fieldLink RX6 65 "LeafTurner$State" "turningsOfNone" "I", Cond.fieldLink RX6 68 "LeafTurner$State" "singlesInRow" "I", Cond.fieldLink RX6 71 "LeafTurner$State" "pairs" "I", Cond.methodLink RX6 46 yX0_copyFrom, Cond.instanceMethod yX0_copyFrom, Cond.selects RX0 yX0_copyFrom yX0_copyFrom, Cond.initialized RX0, Cond.code yX0_copyFrom cX0_copyFrom 2 none, Cond.fieldLink RX0 14 "LeafTurner$Book" "weights" "LLeafTurner$Numbers;", Cond.fieldLink RX0 20 "LeafTurner$Book" "strengths" "LLeafTurner$Numbers;", Cond.fieldLink RX0 23 "LeafTurner$Book" "printed" "LLeafTurner$Numbers;", Cond.fieldLink RX0 26 "LeafTurner$Book" "leaves" "I", Cond.methodLink RX0 44 yX3_copyFrom, Cond.instanceMethod yX3_copyFrom, Cond.selects RX3 yX3_copyFrom yX3_copyFrom, Cond.initialized RX3, Cond.code yX3_copyFrom cX3_copyFrom 2 none, Cond.fieldLink RX3 15 "LeafTurner$Numbers" "cells" "[I", Cond.methodLink RX3 37 Lib.Math.min.name]
def wsX7_setSuction_r3 : List Cond := [Cond.static Lib.Math.min.name, Cond.initialized "java/lang/Math", Cond.code Lib.Math.min.name Lib.Math.min.code 2 (some .int), Cond.methodLink RX3 31 arraycopyName, Cond.native arraycopyName, Cond.static arraycopyName, Cond.initialized "java/lang/System", Cond.methodLink RX6 50 yX5_copyFrom, Cond.instanceMethod yX5_copyFrom, Cond.selects RX5 yX5_copyFrom yX5_copyFrom, Cond.initialized RX5, Cond.code yX5_copyFrom cX5_copyFrom 2 none, Cond.fieldLink RX5 14 "LeafTurner$Pictures" "pages" "LLeafTurner$Numbers;", Cond.fieldLink RX5 20 "LeafTurner$Pictures" "numbers" "LLeafTurner$Numbers;", Cond.fieldLink RX5 23 "LeafTurner$Pictures" "gutters" "LLeafTurner$Numbers;", Cond.fieldLink RX5 26 "LeafTurner$Pictures" "pairs" "LLeafTurner$Numbers;", Cond.fieldLink RX5 29 "LeafTurner$Pictures" "size" "I", Cond.methodLink RX5 52 yX3_copyFrom, Cond.methodLink RX6 53 yX3_copyFrom]
def wsX7_setSuction : List Cond := .code yX7_setSuction cX7_setSuction 3 (some .int) :: ((wsX7_setSuction_r1 ++ (wsX7_setSuction_r2 ++ wsX7_setSuction_r3)) ++ wsX70 ++ wsX60 ++ wsX20 ++ wsX00 ++ wsX30 ++ wsX50)
def wsX7_set_r1 : List Cond := [Cond.fieldLink RX7 141 "LeafTurner" "SETTING_AT_MOST" "[I", Cond.fieldLink RX7 10 "LeafTurner" "now" "LLeafTurner$State;", Cond.fieldLink RX7 25 "LeafTurner" "history" "LLeafTurner$History;", Cond.methodLink RX7 84 yX3_at, Cond.instanceMethod yX3_at, Cond.selects RX3 yX3_at yX3_at, Cond.initialized RX3, Cond.code yX3_at cX3_at 2 (some .int), Cond.fieldLink RX3 15 "LeafTurner$Numbers" "cells" "[I", Cond.methodLink RX3 21 yX3_has, Cond.instanceMethod yX3_has, Cond.selects RX3 yX3_has yX3_has, Cond.code yX3_has cX3_has 2 (some .boolean), Cond.methodLink RX7 55 yX2_record, Cond.instanceMethod yX2_record, Cond.selects RX2 yX2_record yX2_record, Cond.initialized RX2, Cond.code yX2_record cX2_record 2 none, Cond.fieldLink RX2 18 "LeafTurner$History" "size" "I", Cond.fieldLink RX2 11 "LeafTurner$History" "states" "[LLeafTurner$State;", Cond.methodLink RX2 22 yX2_dropOldest, Cond.instanceMethod yX2_dropOldest, Cond.selects RX2 yX2_dropOldest yX2_dropOldest, Cond.code yX2_dropOldest cX2_dropOldest 3 none]
def wsX7_set_r2 : List Cond := [Cond.methodLink RX2 25 yX6_copyFrom, Cond.instanceMethod yX6_copyFrom, Cond.selects RX6 yX6_copyFrom yX6_copyFrom, Cond.initialized RX6, Cond.code yX6_copyFrom cX6_copyFrom 2 none, Cond.fieldLink RX6 12 "LeafTurner$State" "book" "LLeafTurner$Book;", Cond.fieldLink RX6 21 "LeafTurner$State" "pictures" "LLeafTurner$Pictures;", Cond.fieldLink RX6 34 "LeafTurner$State" "settings" "LLeafTurner$Numbers;", Cond.fieldLink RX6 56 "LeafTurner$State" "left" "I", Cond.fieldLink RX6 42 "LeafTurner$State" "suction" "I", Cond.fieldLink RX6 59 "LeafTurner$State" "turnings" "I", Cond.fieldLink RX6 62 "LeafTurner$State" "turningsOfMore" "I", Cond.fieldLink RX6 65 "LeafTurner$State" "turningsOfNone" "I", Cond.fieldLink RX6 68 "LeafTurner$State" "singlesInRow" "I", Cond.fieldLink RX6 71 "LeafTurner$State" "pairs" "I", Cond.methodLink RX6 46 yX0_copyFrom, Cond.instanceMethod yX0_copyFrom, Cond.selects RX0 yX0_copyFrom yX0_copyFrom, Cond.initialized RX0, Cond.code yX0_copyFrom cX0_copyFrom 2 none, Cond.fieldLink RX0 14 "LeafTurner$Book" "weights" "LLeafTurner$Numbers;", Cond.fieldLink RX0 20 "LeafTurner$Book" "strengths" "LLeafTurner$Numbers;", Cond.fieldLink RX0 23 "LeafTurner$Book" "printed" "LLeafTurner$Numbers;", Cond.fieldLink RX0 26 "LeafTurner$Book" "leaves" "I"]
def wsX7_set_r3 : List Cond := [Cond.methodLink RX0 44 yX3_copyFrom, Cond.instanceMethod yX3_copyFrom, Cond.selects RX3 yX3_copyFrom yX3_copyFrom, Cond.code yX3_copyFrom cX3_copyFrom 2 none, Cond.methodLink RX3 37 Lib.Math.min.name, Cond.static Lib.Math.min.name, Cond.initialized "java/lang/Math", Cond.code Lib.Math.min.name Lib.Math.min.code 2 (some .int), Cond.methodLink RX3 31 arraycopyName, Cond.native arraycopyName, Cond.static arraycopyName, Cond.initialized "java/lang/System", Cond.methodLink RX6 50 yX5_copyFrom, Cond.instanceMethod yX5_copyFrom, Cond.selects RX5 yX5_copyFrom yX5_copyFrom, Cond.initialized RX5, Cond.code yX5_copyFrom cX5_copyFrom 2 none, Cond.fieldLink RX5 14 "LeafTurner$Pictures" "pages" "LLeafTurner$Numbers;", Cond.fieldLink RX5 20 "LeafTurner$Pictures" "numbers" "LLeafTurner$Numbers;", Cond.fieldLink RX5 23 "LeafTurner$Pictures" "gutters" "LLeafTurner$Numbers;", Cond.fieldLink RX5 26 "LeafTurner$Pictures" "pairs" "LLeafTurner$Numbers;", Cond.fieldLink RX5 29 "LeafTurner$Pictures" "size" "I", Cond.methodLink RX5 52 yX3_copyFrom, Cond.methodLink RX6 53 yX3_copyFrom]
def wsX7_set_r4 : List Cond := [Cond.methodLink RX7 90 yX3_put, Cond.instanceMethod yX3_put, Cond.selects RX3 yX3_put yX3_put, Cond.code yX3_put cX3_put 3 none]
def wsX7_set : List Cond := .code yX7_set cX7_set 4 (some .int) :: ((wsX7_set_r1 ++ (wsX7_set_r2 ++ (wsX7_set_r3 ++ wsX7_set_r4))) ++ wsX70 ++ wsX60 ++ wsX30 ++ wsX20 ++ wsX00 ++ wsX50)
def wsX7_type : List Cond := .code yX7_type cX7_type 2 (some .int) :: ([.fieldLink RX7 32 "LeafTurner" "text" "LLeafTurner$BookText;", .methodLink RX7 151 yX1_add, .instanceMethod yX1_add, .selects RX1 yX1_add yX1_add, .initialized RX1, .code yX1_add cX1_add 2 none, .fieldLink RX1 15 "LeafTurner$BookText" "length" "I", .fieldLink RX1 9 "LeafTurner$BookText" "signs" "[C"] ++ wsX70 ++ wsX10)
def wsX7_clearText : List Cond := .code yX7_clearText cX7_clearText 2 (some .int) :: ([.fieldLink RX7 32 "LeafTurner" "text" "LLeafTurner$BookText;"] ++ wsX70 ++ wsX10)
def wsX7_undo_r1 : List Cond := [Cond.fieldLink RX7 25 "LeafTurner" "history" "LLeafTurner$History;", Cond.fieldLink RX7 10 "LeafTurner" "now" "LLeafTurner$State;", Cond.methodLink RX7 156 yX2_takeLatestInto, Cond.instanceMethod yX2_takeLatestInto, Cond.selects RX2 yX2_takeLatestInto yX2_takeLatestInto, Cond.initialized RX2, Cond.code yX2_takeLatestInto cX2_takeLatestInto 3 none, Cond.fieldLink RX2 18 "LeafTurner$History" "size" "I", Cond.fieldLink RX2 11 "LeafTurner$History" "states" "[LLeafTurner$State;", Cond.methodLink RX2 25 yX6_copyFrom, Cond.instanceMethod yX6_copyFrom, Cond.selects RX6 yX6_copyFrom yX6_copyFrom, Cond.initialized RX6, Cond.code yX6_copyFrom cX6_copyFrom 2 none, Cond.fieldLink RX6 12 "LeafTurner$State" "book" "LLeafTurner$Book;", Cond.fieldLink RX6 21 "LeafTurner$State" "pictures" "LLeafTurner$Pictures;", Cond.fieldLink RX6 34 "LeafTurner$State" "settings" "LLeafTurner$Numbers;", Cond.fieldLink RX6 56 "LeafTurner$State" "left" "I", Cond.fieldLink RX6 42 "LeafTurner$State" "suction" "I", Cond.fieldLink RX6 59 "LeafTurner$State" "turnings" "I", Cond.fieldLink RX6 62 "LeafTurner$State" "turningsOfMore" "I", Cond.fieldLink RX6 65 "LeafTurner$State" "turningsOfNone" "I", Cond.fieldLink RX6 68 "LeafTurner$State" "singlesInRow" "I", Cond.fieldLink RX6 71 "LeafTurner$State" "pairs" "I"]
def wsX7_undo_r2 : List Cond := [Cond.methodLink RX6 46 yX0_copyFrom, Cond.instanceMethod yX0_copyFrom, Cond.selects RX0 yX0_copyFrom yX0_copyFrom, Cond.initialized RX0, Cond.code yX0_copyFrom cX0_copyFrom 2 none, Cond.fieldLink RX0 14 "LeafTurner$Book" "weights" "LLeafTurner$Numbers;", Cond.fieldLink RX0 20 "LeafTurner$Book" "strengths" "LLeafTurner$Numbers;", Cond.fieldLink RX0 23 "LeafTurner$Book" "printed" "LLeafTurner$Numbers;", Cond.fieldLink RX0 26 "LeafTurner$Book" "leaves" "I", Cond.methodLink RX0 44 yX3_copyFrom, Cond.instanceMethod yX3_copyFrom, Cond.selects RX3 yX3_copyFrom yX3_copyFrom, Cond.initialized RX3, Cond.code yX3_copyFrom cX3_copyFrom 2 none, Cond.fieldLink RX3 15 "LeafTurner$Numbers" "cells" "[I", Cond.methodLink RX3 37 Lib.Math.min.name, Cond.static Lib.Math.min.name, Cond.initialized "java/lang/Math", Cond.code Lib.Math.min.name Lib.Math.min.code 2 (some .int), Cond.methodLink RX3 31 arraycopyName, Cond.native arraycopyName, Cond.static arraycopyName, Cond.initialized "java/lang/System", Cond.methodLink RX6 50 yX5_copyFrom]
def wsX7_undo_r3 : List Cond := [Cond.instanceMethod yX5_copyFrom, Cond.selects RX5 yX5_copyFrom yX5_copyFrom, Cond.initialized RX5, Cond.code yX5_copyFrom cX5_copyFrom 2 none, Cond.fieldLink RX5 14 "LeafTurner$Pictures" "pages" "LLeafTurner$Numbers;", Cond.fieldLink RX5 20 "LeafTurner$Pictures" "numbers" "LLeafTurner$Numbers;", Cond.fieldLink RX5 23 "LeafTurner$Pictures" "gutters" "LLeafTurner$Numbers;", Cond.fieldLink RX5 26 "LeafTurner$Pictures" "pairs" "LLeafTurner$Numbers;", Cond.fieldLink RX5 29 "LeafTurner$Pictures" "size" "I", Cond.methodLink RX5 52 yX3_copyFrom, Cond.methodLink RX6 53 yX3_copyFrom]
def wsX7_undo : List Cond := .code yX7_undo cX7_undo 1 (some .int) :: ((wsX7_undo_r1 ++ (wsX7_undo_r2 ++ wsX7_undo_r3)) ++ wsX70 ++ wsX20 ++ wsX60 ++ wsX00 ++ wsX30 ++ wsX50)
def wsX7_keep_r1 : List Cond := [Cond.fieldLink RX7 19 "LeafTurner" "snapshot" "LLeafTurner$State;", Cond.fieldLink RX7 10 "LeafTurner" "now" "LLeafTurner$State;", Cond.fieldLink RX7 43 "LeafTurner" "hasSnapshot" "Z", Cond.methodLink RX7 114 yX6_copyFrom, Cond.instanceMethod yX6_copyFrom, Cond.selects RX6 yX6_copyFrom yX6_copyFrom, Cond.initialized RX6, Cond.code yX6_copyFrom cX6_copyFrom 2 none, Cond.fieldLink RX6 12 "LeafTurner$State" "book" "LLeafTurner$Book;", Cond.fieldLink RX6 21 "LeafTurner$State" "pictures" "LLeafTurner$Pictures;", Cond.fieldLink RX6 34 "LeafTurner$State" "settings" "LLeafTurner$Numbers;", Cond.fieldLink RX6 56 "LeafTurner$State" "left" "I", Cond.fieldLink RX6 42 "LeafTurner$State" "suction" "I", Cond.fieldLink RX6 59 "LeafTurner$State" "turnings" "I", Cond.fieldLink RX6 62 "LeafTurner$State" "turningsOfMore" "I", Cond.fieldLink RX6 65 "LeafTurner$State" "turningsOfNone" "I", Cond.fieldLink RX6 68 "LeafTurner$State" "singlesInRow" "I", Cond.fieldLink RX6 71 "LeafTurner$State" "pairs" "I", Cond.methodLink RX6 46 yX0_copyFrom, Cond.instanceMethod yX0_copyFrom, Cond.selects RX0 yX0_copyFrom yX0_copyFrom, Cond.initialized RX0, Cond.code yX0_copyFrom cX0_copyFrom 2 none, Cond.fieldLink RX0 14 "LeafTurner$Book" "weights" "LLeafTurner$Numbers;"]
def wsX7_keep_r2 : List Cond := [Cond.fieldLink RX0 20 "LeafTurner$Book" "strengths" "LLeafTurner$Numbers;", Cond.fieldLink RX0 23 "LeafTurner$Book" "printed" "LLeafTurner$Numbers;", Cond.fieldLink RX0 26 "LeafTurner$Book" "leaves" "I", Cond.methodLink RX0 44 yX3_copyFrom, Cond.instanceMethod yX3_copyFrom, Cond.selects RX3 yX3_copyFrom yX3_copyFrom, Cond.initialized RX3, Cond.code yX3_copyFrom cX3_copyFrom 2 none, Cond.fieldLink RX3 15 "LeafTurner$Numbers" "cells" "[I", Cond.methodLink RX3 37 Lib.Math.min.name, Cond.static Lib.Math.min.name, Cond.initialized "java/lang/Math", Cond.code Lib.Math.min.name Lib.Math.min.code 2 (some .int), Cond.methodLink RX3 31 arraycopyName, Cond.native arraycopyName, Cond.static arraycopyName, Cond.initialized "java/lang/System", Cond.methodLink RX6 50 yX5_copyFrom, Cond.instanceMethod yX5_copyFrom, Cond.selects RX5 yX5_copyFrom yX5_copyFrom, Cond.initialized RX5, Cond.code yX5_copyFrom cX5_copyFrom 2 none, Cond.fieldLink RX5 14 "LeafTurner$Pictures" "pages" "LLeafTurner$Numbers;", Cond.fieldLink RX5 20 "LeafTurner$Pictures" "numbers" "LLeafTurner$Numbers;"]
def wsX7_keep_r3 : List Cond := [Cond.fieldLink RX5 23 "LeafTurner$Pictures" "gutters" "LLeafTurner$Numbers;", Cond.fieldLink RX5 26 "LeafTurner$Pictures" "pairs" "LLeafTurner$Numbers;", Cond.fieldLink RX5 29 "LeafTurner$Pictures" "size" "I", Cond.methodLink RX5 52 yX3_copyFrom, Cond.methodLink RX6 53 yX3_copyFrom]
def wsX7_keep : List Cond := .code yX7_keep cX7_keep 1 (some .int) :: ((wsX7_keep_r1 ++ (wsX7_keep_r2 ++ wsX7_keep_r3)) ++ wsX70 ++ wsX60 ++ wsX50 ++ wsX00 ++ wsX30)
def wsX7_restore_r1 : List Cond := [Cond.fieldLink RX7 43 "LeafTurner" "hasSnapshot" "Z", Cond.fieldLink RX7 25 "LeafTurner" "history" "LLeafTurner$History;", Cond.fieldLink RX7 10 "LeafTurner" "now" "LLeafTurner$State;", Cond.fieldLink RX7 19 "LeafTurner" "snapshot" "LLeafTurner$State;", Cond.methodLink RX7 55 yX2_record, Cond.instanceMethod yX2_record, Cond.selects RX2 yX2_record yX2_record, Cond.initialized RX2, Cond.code yX2_record cX2_record 2 none, Cond.fieldLink RX2 18 "LeafTurner$History" "size" "I", Cond.fieldLink RX2 11 "LeafTurner$History" "states" "[LLeafTurner$State;", Cond.methodLink RX2 22 yX2_dropOldest, Cond.instanceMethod yX2_dropOldest, Cond.selects RX2 yX2_dropOldest yX2_dropOldest, Cond.code yX2_dropOldest cX2_dropOldest 3 none, Cond.methodLink RX2 25 yX6_copyFrom, Cond.instanceMethod yX6_copyFrom, Cond.selects RX6 yX6_copyFrom yX6_copyFrom, Cond.initialized RX6, Cond.code yX6_copyFrom cX6_copyFrom 2 none, Cond.fieldLink RX6 12 "LeafTurner$State" "book" "LLeafTurner$Book;", Cond.fieldLink RX6 21 "LeafTurner$State" "pictures" "LLeafTurner$Pictures;", Cond.fieldLink RX6 34 "LeafTurner$State" "settings" "LLeafTurner$Numbers;", Cond.fieldLink RX6 56 "LeafTurner$State" "left" "I"]
def wsX7_restore_r2 : List Cond := [Cond.fieldLink RX6 42 "LeafTurner$State" "suction" "I", Cond.fieldLink RX6 59 "LeafTurner$State" "turnings" "I", Cond.fieldLink RX6 62 "LeafTurner$State" "turningsOfMore" "I", Cond.fieldLink RX6 65 "LeafTurner$State" "turningsOfNone" "I", Cond.fieldLink RX6 68 "LeafTurner$State" "singlesInRow" "I", Cond.fieldLink RX6 71 "LeafTurner$State" "pairs" "I", Cond.methodLink RX6 46 yX0_copyFrom, Cond.instanceMethod yX0_copyFrom, Cond.selects RX0 yX0_copyFrom yX0_copyFrom, Cond.initialized RX0, Cond.code yX0_copyFrom cX0_copyFrom 2 none, Cond.fieldLink RX0 14 "LeafTurner$Book" "weights" "LLeafTurner$Numbers;", Cond.fieldLink RX0 20 "LeafTurner$Book" "strengths" "LLeafTurner$Numbers;", Cond.fieldLink RX0 23 "LeafTurner$Book" "printed" "LLeafTurner$Numbers;", Cond.fieldLink RX0 26 "LeafTurner$Book" "leaves" "I", Cond.methodLink RX0 44 yX3_copyFrom, Cond.instanceMethod yX3_copyFrom, Cond.selects RX3 yX3_copyFrom yX3_copyFrom, Cond.initialized RX3, Cond.code yX3_copyFrom cX3_copyFrom 2 none, Cond.fieldLink RX3 15 "LeafTurner$Numbers" "cells" "[I", Cond.methodLink RX3 37 Lib.Math.min.name, Cond.static Lib.Math.min.name, Cond.initialized "java/lang/Math"]
def wsX7_restore_r3 : List Cond := [Cond.code Lib.Math.min.name Lib.Math.min.code 2 (some .int), Cond.methodLink RX3 31 arraycopyName, Cond.native arraycopyName, Cond.static arraycopyName, Cond.initialized "java/lang/System", Cond.methodLink RX6 50 yX5_copyFrom, Cond.instanceMethod yX5_copyFrom, Cond.selects RX5 yX5_copyFrom yX5_copyFrom, Cond.initialized RX5, Cond.code yX5_copyFrom cX5_copyFrom 2 none, Cond.fieldLink RX5 14 "LeafTurner$Pictures" "pages" "LLeafTurner$Numbers;", Cond.fieldLink RX5 20 "LeafTurner$Pictures" "numbers" "LLeafTurner$Numbers;", Cond.fieldLink RX5 23 "LeafTurner$Pictures" "gutters" "LLeafTurner$Numbers;", Cond.fieldLink RX5 26 "LeafTurner$Pictures" "pairs" "LLeafTurner$Numbers;", Cond.fieldLink RX5 29 "LeafTurner$Pictures" "size" "I", Cond.methodLink RX5 52 yX3_copyFrom, Cond.methodLink RX6 53 yX3_copyFrom, Cond.methodLink RX7 114 yX6_copyFrom]
def wsX7_restore : List Cond := .code yX7_restore cX7_restore 1 (some .int) :: ((wsX7_restore_r1 ++ (wsX7_restore_r2 ++ wsX7_restore_r3)) ++ wsX70 ++ wsX60 ++ wsX50 ++ wsX20 ++ wsX00 ++ wsX30)
def wsX7_leaf : List Cond := .code yX7_leaf cX7_leaf 3 (some .int) :: ([.fieldLink RX7 10 "LeafTurner" "now" "LLeafTurner$State;", .methodLink RX7 84 yX3_at, .instanceMethod yX3_at, .selects RX3 yX3_at yX3_at, .initialized RX3, .code yX3_at cX3_at 2 (some .int), .fieldLink RX3 15 "LeafTurner$Numbers" "cells" "[I", .methodLink RX3 21 yX3_has, .instanceMethod yX3_has, .selects RX3 yX3_has yX3_has, .code yX3_has cX3_has 2 (some .boolean), .methodLink RX7 165 yX7_asNumber, .static yX7_asNumber, .initialized RX7, .code yX7_asNumber cX7_asNumber 1 (some .int)] ++ wsX70 ++ wsX60 ++ wsX00 ++ wsX30)
def wsX7_page_r1 : List Cond := [Cond.fieldLink RX7 10 "LeafTurner" "now" "LLeafTurner$State;", Cond.fieldLink RX7 39 "LeafTurner" "pageSet" "LLeafTurner$PageSet;", Cond.methodLink RX7 76 yX0_hasPage, Cond.instanceMethod yX0_hasPage, Cond.selects RX0 yX0_hasPage yX0_hasPage, Cond.initialized RX0, Cond.code yX0_hasPage cX0_hasPage 2 (some .boolean), Cond.methodLink RX0 30 yX0_pages, Cond.instanceMethod yX0_pages, Cond.selects RX0 yX0_pages yX0_pages, Cond.code yX0_pages cX0_pages 1 (some .int), Cond.fieldLink RX0 26 "LeafTurner$Book" "leaves" "I", Cond.methodLink RX7 84 yX3_at, Cond.instanceMethod yX3_at, Cond.selects RX3 yX3_at yX3_at, Cond.initialized RX3, Cond.code yX3_at cX3_at 2 (some .int), Cond.fieldLink RX3 15 "LeafTurner$Numbers" "cells" "[I", Cond.methodLink RX3 21 yX3_has, Cond.instanceMethod yX3_has, Cond.selects RX3 yX3_has yX3_has, Cond.code yX3_has cX3_has 2 (some .boolean), Cond.methodLink RX7 169 yX4_makeFor, Cond.instanceMethod yX4_makeFor]
def wsX7_page_r2 : List Cond := [Cond.selects RX4 yX4_makeFor yX4_makeFor, Cond.initialized RX4, Cond.code yX4_makeFor cX4_makeFor 5 none, Cond.fieldLink RX4 35 "LeafTurner$PageSet" "pictures" "I", Cond.fieldLink RX4 47 "LeafTurner$PageSet" "pages" "I", Cond.fieldLink RX4 20 "LeafTurner$PageSet" "chosen" "LLeafTurner$Numbers;", Cond.fieldLink RX4 14 "LeafTurner$PageSet" "guesses" "LLeafTurner$Numbers;", Cond.methodLink RX4 41 yX0_pages, Cond.methodLink RX4 49 yX3_putAll, Cond.instanceMethod yX3_putAll, Cond.selects RX3 yX3_putAll yX3_putAll, Cond.code yX3_putAll cX3_putAll 2 none, Cond.methodLink RX3 25 yJ7_fill_53178, Cond.static yJ7_fill_53178, Cond.initialized RJ7, Cond.code yJ7_fill_53178 cJ7_fill_53178 4 none, Cond.methodLink RX4 52 yX4_guessOf, Cond.instanceMethod yX4_guessOf, Cond.selects RX4 yX4_guessOf yX4_guessOf, Cond.code yX4_guessOf cX4_guessOf 6 (some .int), Cond.methodLink RX4 67 yX3_at, Cond.methodLink RX4 71 yX5_isGood, Cond.instanceMethod yX5_isGood, Cond.selects RX5 yX5_isGood yX5_isGood]
def wsX7_page_r3 : List Cond := [Cond.initialized RX5, Cond.code yX5_isGood cX5_isGood 2 (some .boolean), Cond.fieldLink RX5 23 "LeafTurner$Pictures" "gutters" "LLeafTurner$Numbers;", Cond.methodLink RX5 33 yX3_at, Cond.methodLink RX4 78 yX0_hasPage, Cond.methodLink RX4 56 yX3_put, Cond.instanceMethod yX3_put, Cond.selects RX3 yX3_put yX3_put, Cond.code yX3_put cX3_put 3 none, Cond.methodLink RX4 60 yX4_choose, Cond.instanceMethod yX4_choose, Cond.selects RX4 yX4_choose yX4_choose, Cond.code yX4_choose cX4_choose 5 none, Cond.methodLink RX7 175 yX5_howManyShow, Cond.instanceMethod yX5_howManyShow, Cond.selects RX5 yX5_howManyShow yX5_howManyShow, Cond.code yX5_howManyShow cX5_howManyShow 4 (some .int), Cond.fieldLink RX5 29 "LeafTurner$Pictures" "size" "I", Cond.fieldLink RX5 14 "LeafTurner$Pictures" "pages" "LLeafTurner$Numbers;", Cond.methodLink RX7 178 yX4_isDoubtful, Cond.instanceMethod yX4_isDoubtful, Cond.selects RX4 yX4_isDoubtful yX4_isDoubtful, Cond.code yX4_isDoubtful cX4_isDoubtful 4 (some .boolean), Cond.methodLink RX7 165 yX7_asNumber]
def wsX7_page_r4 : List Cond := [Cond.static yX7_asNumber, Cond.initialized RX7, Cond.code yX7_asNumber cX7_asNumber 1 (some .int), Cond.methodLink RX7 182 yX6_gutterIsGood, Cond.instanceMethod yX6_gutterIsGood, Cond.selects RX6 yX6_gutterIsGood yX6_gutterIsGood, Cond.initialized RX6, Cond.code yX6_gutterIsGood cX6_gutterIsGood 5 (some .boolean), Cond.fieldLink RX6 12 "LeafTurner$State" "book" "LLeafTurner$Book;", Cond.fieldLink RX6 34 "LeafTurner$State" "settings" "LLeafTurner$Numbers;", Cond.static yX7_isRightPage, Cond.code yX7_isRightPage cX7_isRightPage 1 (some .boolean), Cond.methodLink RX6 87 yX3_at]
def wsX7_page : List Cond := .code yX7_page cX7_page 3 (some .int) :: ((wsX7_page_r1 ++ (wsX7_page_r2 ++ (wsX7_page_r3 ++ wsX7_page_r4))) ++ wsX70 ++ wsX60 ++ wsX00 ++ wsX40 ++ wsX30 ++ wsX50)
def wsX7_picture_r1 : List Cond := [Cond.fieldLink RX7 10 "LeafTurner" "now" "LLeafTurner$State;", Cond.fieldLink RX7 39 "LeafTurner" "pageSet" "LLeafTurner$PageSet;", Cond.methodLink RX7 123 yX5_has, Cond.instanceMethod yX5_has, Cond.selects RX5 yX5_has yX5_has, Cond.initialized RX5, Cond.code yX5_has cX5_has 2 (some .boolean), Cond.fieldLink RX5 29 "LeafTurner$Pictures" "size" "I", Cond.methodLink RX7 84 yX3_at, Cond.instanceMethod yX3_at, Cond.selects RX3 yX3_at yX3_at, Cond.initialized RX3, Cond.code yX3_at cX3_at 2 (some .int), Cond.fieldLink RX3 15 "LeafTurner$Numbers" "cells" "[I", Cond.methodLink RX3 21 yX3_has, Cond.instanceMethod yX3_has, Cond.selects RX3 yX3_has yX3_has, Cond.code yX3_has cX3_has 2 (some .boolean), Cond.methodLink RX7 191 yX5_isGood, Cond.instanceMethod yX5_isGood, Cond.selects RX5 yX5_isGood yX5_isGood, Cond.code yX5_isGood cX5_isGood 2 (some .boolean), Cond.fieldLink RX5 23 "LeafTurner$Pictures" "gutters" "LLeafTurner$Numbers;", Cond.methodLink RX5 33 yX3_at]
def wsX7_picture_r2 : List Cond := [Cond.methodLink RX7 165 yX7_asNumber, Cond.static yX7_asNumber, Cond.initialized RX7, Cond.code yX7_asNumber cX7_asNumber 1 (some .int), Cond.methodLink RX7 169 yX4_makeFor, Cond.instanceMethod yX4_makeFor, Cond.selects RX4 yX4_makeFor yX4_makeFor, Cond.initialized RX4, Cond.code yX4_makeFor cX4_makeFor 5 none, Cond.fieldLink RX4 35 "LeafTurner$PageSet" "pictures" "I", Cond.fieldLink RX4 47 "LeafTurner$PageSet" "pages" "I", Cond.fieldLink RX4 20 "LeafTurner$PageSet" "chosen" "LLeafTurner$Numbers;", Cond.fieldLink RX4 14 "LeafTurner$PageSet" "guesses" "LLeafTurner$Numbers;", Cond.methodLink RX4 41 yX0_pages, Cond.instanceMethod yX0_pages, Cond.selects RX0 yX0_pages yX0_pages, Cond.initialized RX0, Cond.code yX0_pages cX0_pages 1 (some .int), Cond.fieldLink RX0 26 "LeafTurner$Book" "leaves" "I", Cond.methodLink RX4 49 yX3_putAll, Cond.instanceMethod yX3_putAll, Cond.selects RX3 yX3_putAll yX3_putAll, Cond.code yX3_putAll cX3_putAll 2 none, Cond.methodLink RX3 25 yJ7_fill_53178]
def wsX7_picture_r3 : List Cond := [Cond.static yJ7_fill_53178, Cond.initialized RJ7, Cond.code yJ7_fill_53178 cJ7_fill_53178 4 none, Cond.methodLink RX4 52 yX4_guessOf, Cond.instanceMethod yX4_guessOf, Cond.selects RX4 yX4_guessOf yX4_guessOf, Cond.code yX4_guessOf cX4_guessOf 6 (some .int), Cond.methodLink RX4 67 yX3_at, Cond.methodLink RX4 71 yX5_isGood, Cond.methodLink RX4 78 yX0_hasPage, Cond.instanceMethod yX0_hasPage, Cond.selects RX0 yX0_hasPage yX0_hasPage, Cond.code yX0_hasPage cX0_hasPage 2 (some .boolean), Cond.methodLink RX0 30 yX0_pages, Cond.methodLink RX4 56 yX3_put, Cond.instanceMethod yX3_put, Cond.selects RX3 yX3_put yX3_put, Cond.code yX3_put cX3_put 3 none, Cond.methodLink RX4 60 yX4_choose, Cond.instanceMethod yX4_choose, Cond.selects RX4 yX4_choose yX4_choose, Cond.code yX4_choose cX4_choose 5 none, Cond.methodLink RX7 197 yX4_isSpare, Cond.instanceMethod yX4_isSpare]
def wsX7_picture_r4 : List Cond := [Cond.selects RX4 yX4_isSpare yX4_isSpare, Cond.code yX4_isSpare cX4_isSpare 3 (some .boolean), Cond.methodLink RX7 200 yX7_isRightPage, Cond.static yX7_isRightPage, Cond.code yX7_isRightPage cX7_isRightPage 1 (some .boolean)]
def wsX7_picture : List Cond := .code yX7_picture cX7_picture 4 (some .int) :: ((wsX7_picture_r1 ++ (wsX7_picture_r2 ++ (wsX7_picture_r3 ++ wsX7_picture_r4))) ++ wsX70 ++ wsX60 ++ wsX50 ++ wsX40 ++ wsX30 ++ wsX00)
def wsX7_open : List Cond := .code yX7_open cX7_open 2 (some .int) :: ([.fieldLink RX7 10 "LeafTurner" "now" "LLeafTurner$State;", .methodLink RX7 206 yX6_openOnLeft, .instanceMethod yX6_openOnLeft, .selects RX6 yX6_openOnLeft yX6_openOnLeft, .initialized RX6, .code yX6_openOnLeft cX6_openOnLeft 1 (some .int), .fieldLink RX6 56 "LeafTurner$State" "left" "I", .methodLink RX7 209 yX6_openOnRight, .instanceMethod yX6_openOnRight, .selects RX6 yX6_openOnRight yX6_openOnRight, .code yX6_openOnRight cX6_openOnRight 1 (some .int), .methodLink RX6 80 yX6_leavesOnRight, .instanceMethod yX6_leavesOnRight, .selects RX6 yX6_leavesOnRight yX6_leavesOnRight, .code yX6_leavesOnRight cX6_leavesOnRight 1 (some .int), .fieldLink RX6 12 "LeafTurner$State" "book" "LLeafTurner$Book;"] ++ wsX70 ++ wsX60 ++ wsX00)
def wsX7_would_r1 : List Cond := [Cond.fieldLink RX7 10 "LeafTurner" "now" "LLeafTurner$State;", Cond.methodLink RX7 135 yX7_isSuction, Cond.static yX7_isSuction, Cond.initialized RX7, Cond.code yX7_isSuction cX7_isSuction 1 (some .boolean), Cond.methodLink RX7 94 yX6_leavesOnRight, Cond.instanceMethod yX6_leavesOnRight, Cond.selects RX6 yX6_leavesOnRight yX6_leavesOnRight, Cond.initialized RX6, Cond.code yX6_leavesOnRight cX6_leavesOnRight 1 (some .int), Cond.fieldLink RX6 12 "LeafTurner$State" "book" "LLeafTurner$Book;", Cond.fieldLink RX6 56 "LeafTurner$State" "left" "I", Cond.methodLink RX7 212 yX6_liftedBy, Cond.instanceMethod yX6_liftedBy, Cond.selects RX6 yX6_liftedBy yX6_liftedBy, Cond.code yX6_liftedBy cX6_liftedBy 6 (some .int), Cond.methodLink RX6 87 yX3_at, Cond.instanceMethod yX3_at, Cond.selects RX3 yX3_at yX3_at, Cond.initialized RX3, Cond.code yX3_at cX3_at 2 (some .int), Cond.fieldLink RX3 15 "LeafTurner$Numbers" "cells" "[I", Cond.methodLink RX3 21 yX3_has, Cond.instanceMethod yX3_has]
def wsX7_would_r2 : List Cond := [Cond.selects RX3 yX3_has yX3_has, Cond.code yX3_has cX3_has 2 (some .boolean)]
def wsX7_would : List Cond := .code yX7_would cX7_would 2 (some .int) :: ((wsX7_would_r1 ++ wsX7_would_r2) ++ wsX70 ++ wsX60 ++ wsX00 ++ wsX30)
def wsX7_best : List Cond := .code yX7_best cX7_best 2 (some .int) :: ([.fieldLink RX7 10 "LeafTurner" "now" "LLeafTurner$State;", .methodLink RX7 94 yX6_leavesOnRight, .instanceMethod yX6_leavesOnRight, .selects RX6 yX6_leavesOnRight yX6_leavesOnRight, .initialized RX6, .code yX6_leavesOnRight cX6_leavesOnRight 1 (some .int), .fieldLink RX6 12 "LeafTurner$State" "book" "LLeafTurner$Book;", .fieldLink RX6 56 "LeafTurner$State" "left" "I", .methodLink RX7 212 yX6_liftedBy, .instanceMethod yX6_liftedBy, .selects RX6 yX6_liftedBy yX6_liftedBy, .code yX6_liftedBy cX6_liftedBy 6 (some .int), .methodLink RX6 87 yX3_at, .instanceMethod yX3_at, .selects RX3 yX3_at yX3_at, .initialized RX3, .code yX3_at cX3_at 2 (some .int), .fieldLink RX3 15 "LeafTurner$Numbers" "cells" "[I", .methodLink RX3 21 yX3_has, .instanceMethod yX3_has, .selects RX3 yX3_has yX3_has, .code yX3_has cX3_has 2 (some .boolean)] ++ wsX70 ++ wsX60 ++ wsX00 ++ wsX30)
def wsX7_lacking_r1 : List Cond := [Cond.fieldLink RX7 39 "LeafTurner" "pageSet" "LLeafTurner$PageSet;", Cond.fieldLink RX7 10 "LeafTurner" "now" "LLeafTurner$State;", Cond.methodLink RX7 169 yX4_makeFor, Cond.instanceMethod yX4_makeFor, Cond.selects RX4 yX4_makeFor yX4_makeFor, Cond.initialized RX4, Cond.code yX4_makeFor cX4_makeFor 5 none, Cond.fieldLink RX4 35 "LeafTurner$PageSet" "pictures" "I", Cond.fieldLink RX4 47 "LeafTurner$PageSet" "pages" "I", Cond.fieldLink RX4 20 "LeafTurner$PageSet" "chosen" "LLeafTurner$Numbers;", Cond.fieldLink RX4 14 "LeafTurner$PageSet" "guesses" "LLeafTurner$Numbers;", Cond.methodLink RX4 41 yX0_pages, Cond.instanceMethod yX0_pages, Cond.selects RX0 yX0_pages yX0_pages, Cond.initialized RX0, Cond.code yX0_pages cX0_pages 1 (some .int), Cond.fieldLink RX0 26 "LeafTurner$Book" "leaves" "I", Cond.methodLink RX4 49 yX3_putAll, Cond.instanceMethod yX3_putAll, Cond.selects RX3 yX3_putAll yX3_putAll, Cond.initialized RX3, Cond.code yX3_putAll cX3_putAll 2 none, Cond.fieldLink RX3 15 "LeafTurner$Numbers" "cells" "[I", Cond.methodLink RX3 25 yJ7_fill_53178]
def wsX7_lacking_r2 : List Cond := [Cond.static yJ7_fill_53178, Cond.initialized RJ7, Cond.code yJ7_fill_53178 cJ7_fill_53178 4 none, Cond.methodLink RX4 52 yX4_guessOf, Cond.instanceMethod yX4_guessOf, Cond.selects RX4 yX4_guessOf yX4_guessOf, Cond.code yX4_guessOf cX4_guessOf 6 (some .int), Cond.methodLink RX4 67 yX3_at, Cond.instanceMethod yX3_at, Cond.selects RX3 yX3_at yX3_at, Cond.code yX3_at cX3_at 2 (some .int), Cond.methodLink RX3 21 yX3_has, Cond.instanceMethod yX3_has, Cond.selects RX3 yX3_has yX3_has, Cond.code yX3_has cX3_has 2 (some .boolean), Cond.methodLink RX4 71 yX5_isGood, Cond.instanceMethod yX5_isGood, Cond.selects RX5 yX5_isGood yX5_isGood, Cond.initialized RX5, Cond.code yX5_isGood cX5_isGood 2 (some .boolean), Cond.fieldLink RX5 23 "LeafTurner$Pictures" "gutters" "LLeafTurner$Numbers;", Cond.methodLink RX5 33 yX3_at, Cond.methodLink RX4 78 yX0_hasPage, Cond.instanceMethod yX0_hasPage]
def wsX7_lacking_r3 : List Cond := [Cond.selects RX0 yX0_hasPage yX0_hasPage, Cond.code yX0_hasPage cX0_hasPage 2 (some .boolean), Cond.methodLink RX0 30 yX0_pages, Cond.methodLink RX4 56 yX3_put, Cond.instanceMethod yX3_put, Cond.selects RX3 yX3_put yX3_put, Cond.code yX3_put cX3_put 3 none, Cond.methodLink RX4 60 yX4_choose, Cond.instanceMethod yX4_choose, Cond.selects RX4 yX4_choose yX4_choose, Cond.code yX4_choose cX4_choose 5 none, Cond.methodLink RX7 215 yX4_lackingAt, Cond.instanceMethod yX4_lackingAt, Cond.selects RX4 yX4_lackingAt yX4_lackingAt, Cond.code yX4_lackingAt cX4_lackingAt 4 (some .int)]
def wsX7_lacking : List Cond := .code yX7_lacking cX7_lacking 2 (some .int) :: ((wsX7_lacking_r1 ++ (wsX7_lacking_r2 ++ wsX7_lacking_r3)) ++ wsX70 ++ wsX60 ++ wsX50 ++ wsX40 ++ wsX00 ++ wsX30)
def wsX7_countInSet_r1 : List Cond := [Cond.fieldLink RX7 39 "LeafTurner" "pageSet" "LLeafTurner$PageSet;", Cond.fieldLink RX7 10 "LeafTurner" "now" "LLeafTurner$State;", Cond.methodLink RX7 169 yX4_makeFor, Cond.instanceMethod yX4_makeFor, Cond.selects RX4 yX4_makeFor yX4_makeFor, Cond.initialized RX4, Cond.code yX4_makeFor cX4_makeFor 5 none, Cond.fieldLink RX4 35 "LeafTurner$PageSet" "pictures" "I", Cond.fieldLink RX4 47 "LeafTurner$PageSet" "pages" "I", Cond.fieldLink RX4 20 "LeafTurner$PageSet" "chosen" "LLeafTurner$Numbers;", Cond.fieldLink RX4 14 "LeafTurner$PageSet" "guesses" "LLeafTurner$Numbers;", Cond.methodLink RX4 41 yX0_pages, Cond.instanceMethod yX0_pages, Cond.selects RX0 yX0_pages yX0_pages, Cond.initialized RX0, Cond.code yX0_pages cX0_pages 1 (some .int), Cond.fieldLink RX0 26 "LeafTurner$Book" "leaves" "I", Cond.methodLink RX4 49 yX3_putAll, Cond.instanceMethod yX3_putAll, Cond.selects RX3 yX3_putAll yX3_putAll, Cond.initialized RX3, Cond.code yX3_putAll cX3_putAll 2 none, Cond.fieldLink RX3 15 "LeafTurner$Numbers" "cells" "[I", Cond.methodLink RX3 25 yJ7_fill_53178]
def wsX7_countInSet_r2 : List Cond := [Cond.static yJ7_fill_53178, Cond.initialized RJ7, Cond.code yJ7_fill_53178 cJ7_fill_53178 4 none, Cond.methodLink RX4 52 yX4_guessOf, Cond.instanceMethod yX4_guessOf, Cond.selects RX4 yX4_guessOf yX4_guessOf, Cond.code yX4_guessOf cX4_guessOf 6 (some .int), Cond.methodLink RX4 67 yX3_at, Cond.instanceMethod yX3_at, Cond.selects RX3 yX3_at yX3_at, Cond.code yX3_at cX3_at 2 (some .int), Cond.methodLink RX3 21 yX3_has, Cond.instanceMethod yX3_has, Cond.selects RX3 yX3_has yX3_has, Cond.code yX3_has cX3_has 2 (some .boolean), Cond.methodLink RX4 71 yX5_isGood, Cond.instanceMethod yX5_isGood, Cond.selects RX5 yX5_isGood yX5_isGood, Cond.initialized RX5, Cond.code yX5_isGood cX5_isGood 2 (some .boolean), Cond.fieldLink RX5 23 "LeafTurner$Pictures" "gutters" "LLeafTurner$Numbers;", Cond.methodLink RX5 33 yX3_at, Cond.methodLink RX4 78 yX0_hasPage, Cond.instanceMethod yX0_hasPage]
def wsX7_countInSet_r3 : List Cond := [Cond.selects RX0 yX0_hasPage yX0_hasPage, Cond.code yX0_hasPage cX0_hasPage 2 (some .boolean), Cond.methodLink RX0 30 yX0_pages, Cond.methodLink RX4 56 yX3_put, Cond.instanceMethod yX3_put, Cond.selects RX3 yX3_put yX3_put, Cond.code yX3_put cX3_put 3 none, Cond.methodLink RX4 60 yX4_choose, Cond.instanceMethod yX4_choose, Cond.selects RX4 yX4_choose yX4_choose, Cond.code yX4_choose cX4_choose 5 none, Cond.methodLink RX7 232 yX4_howManyLack, Cond.instanceMethod yX4_howManyLack, Cond.selects RX4 yX4_howManyLack yX4_howManyLack, Cond.code yX4_howManyLack cX4_howManyLack 3 (some .int), Cond.methodLink RX7 235 yX4_howManyDoubtful, Cond.instanceMethod yX4_howManyDoubtful, Cond.selects RX4 yX4_howManyDoubtful yX4_howManyDoubtful, Cond.code yX4_howManyDoubtful cX4_howManyDoubtful 4 (some .int), Cond.methodLink RX4 83 yX4_isDoubtful, Cond.instanceMethod yX4_isDoubtful, Cond.selects RX4 yX4_isDoubtful yX4_isDoubtful, Cond.code yX4_isDoubtful cX4_isDoubtful 4 (some .boolean), Cond.methodLink RX7 239 yX4_howManySpare]
def wsX7_countInSet_r4 : List Cond := [Cond.instanceMethod yX4_howManySpare, Cond.selects RX4 yX4_howManySpare yX4_howManySpare, Cond.code yX4_howManySpare cX4_howManySpare 3 (some .int), Cond.methodLink RX4 87 yX4_isSpare, Cond.instanceMethod yX4_isSpare, Cond.selects RX4 yX4_isSpare yX4_isSpare, Cond.code yX4_isSpare cX4_isSpare 3 (some .boolean), Cond.methodLink RX7 242 yX4_howManyNotGuessed, Cond.instanceMethod yX4_howManyNotGuessed, Cond.selects RX4 yX4_howManyNotGuessed yX4_howManyNotGuessed, Cond.code yX4_howManyNotGuessed cX4_howManyNotGuessed 3 (some .int)]
def wsX7_countInSet : List Cond := .code yX7_countInSet cX7_countInSet 2 (some .int) :: ((wsX7_countInSet_r1 ++ (wsX7_countInSet_r2 ++ (wsX7_countInSet_r3 ++ wsX7_countInSet_r4))) ++ wsX70 ++ wsX60 ++ wsX50 ++ wsX40 ++ wsX00 ++ wsX30)
def wsX7_count_r1 : List Cond := [Cond.fieldLink RX7 10 "LeafTurner" "now" "LLeafTurner$State;", Cond.fieldLink RX7 25 "LeafTurner" "history" "LLeafTurner$History;", Cond.fieldLink RX7 32 "LeafTurner" "text" "LLeafTurner$BookText;", Cond.methodLink RX7 218 yX7_countInSet, Cond.instanceMethod yX7_countInSet, Cond.selects RX7 yX7_countInSet yX7_countInSet, Cond.initialized RX7, Cond.code yX7_countInSet cX7_countInSet 2 (some .int), Cond.fieldLink RX7 39 "LeafTurner" "pageSet" "LLeafTurner$PageSet;", Cond.methodLink RX7 169 yX4_makeFor, Cond.instanceMethod yX4_makeFor, Cond.selects RX4 yX4_makeFor yX4_makeFor, Cond.initialized RX4, Cond.code yX4_makeFor cX4_makeFor 5 none, Cond.fieldLink RX4 35 "LeafTurner$PageSet" "pictures" "I", Cond.fieldLink RX4 47 "LeafTurner$PageSet" "pages" "I", Cond.fieldLink RX4 20 "LeafTurner$PageSet" "chosen" "LLeafTurner$Numbers;", Cond.fieldLink RX4 14 "LeafTurner$PageSet" "guesses" "LLeafTurner$Numbers;", Cond.methodLink RX4 41 yX0_pages, Cond.instanceMethod yX0_pages, Cond.selects RX0 yX0_pages yX0_pages, Cond.initialized RX0, Cond.code yX0_pages cX0_pages 1 (some .int), Cond.fieldLink RX0 26 "LeafTurner$Book" "leaves" "I"]
def wsX7_count_r2 : List Cond := [Cond.methodLink RX4 49 yX3_putAll, Cond.instanceMethod yX3_putAll, Cond.selects RX3 yX3_putAll yX3_putAll, Cond.initialized RX3, Cond.code yX3_putAll cX3_putAll 2 none, Cond.fieldLink RX3 15 "LeafTurner$Numbers" "cells" "[I", Cond.methodLink RX3 25 yJ7_fill_53178, Cond.static yJ7_fill_53178, Cond.initialized RJ7, Cond.code yJ7_fill_53178 cJ7_fill_53178 4 none, Cond.methodLink RX4 52 yX4_guessOf, Cond.instanceMethod yX4_guessOf, Cond.selects RX4 yX4_guessOf yX4_guessOf, Cond.code yX4_guessOf cX4_guessOf 6 (some .int), Cond.methodLink RX4 67 yX3_at, Cond.instanceMethod yX3_at, Cond.selects RX3 yX3_at yX3_at, Cond.code yX3_at cX3_at 2 (some .int), Cond.methodLink RX3 21 yX3_has, Cond.instanceMethod yX3_has, Cond.selects RX3 yX3_has yX3_has, Cond.code yX3_has cX3_has 2 (some .boolean), Cond.methodLink RX4 71 yX5_isGood, Cond.instanceMethod yX5_isGood]
def wsX7_count_r3 : List Cond := [Cond.selects RX5 yX5_isGood yX5_isGood, Cond.initialized RX5, Cond.code yX5_isGood cX5_isGood 2 (some .boolean), Cond.fieldLink RX5 23 "LeafTurner$Pictures" "gutters" "LLeafTurner$Numbers;", Cond.methodLink RX5 33 yX3_at, Cond.methodLink RX4 78 yX0_hasPage, Cond.instanceMethod yX0_hasPage, Cond.selects RX0 yX0_hasPage yX0_hasPage, Cond.code yX0_hasPage cX0_hasPage 2 (some .boolean), Cond.methodLink RX0 30 yX0_pages, Cond.methodLink RX4 56 yX3_put, Cond.instanceMethod yX3_put, Cond.selects RX3 yX3_put yX3_put, Cond.code yX3_put cX3_put 3 none, Cond.methodLink RX4 60 yX4_choose, Cond.instanceMethod yX4_choose, Cond.selects RX4 yX4_choose yX4_choose, Cond.code yX4_choose cX4_choose 5 none, Cond.methodLink RX7 232 yX4_howManyLack, Cond.instanceMethod yX4_howManyLack, Cond.selects RX4 yX4_howManyLack yX4_howManyLack, Cond.code yX4_howManyLack cX4_howManyLack 3 (some .int), Cond.methodLink RX7 235 yX4_howManyDoubtful, Cond.instanceMethod yX4_howManyDoubtful]
def wsX7_count_r4 : List Cond := [Cond.selects RX4 yX4_howManyDoubtful yX4_howManyDoubtful, Cond.code yX4_howManyDoubtful cX4_howManyDoubtful 4 (some .int), Cond.methodLink RX4 83 yX4_isDoubtful, Cond.instanceMethod yX4_isDoubtful, Cond.selects RX4 yX4_isDoubtful yX4_isDoubtful, Cond.code yX4_isDoubtful cX4_isDoubtful 4 (some .boolean), Cond.methodLink RX7 239 yX4_howManySpare, Cond.instanceMethod yX4_howManySpare, Cond.selects RX4 yX4_howManySpare yX4_howManySpare, Cond.code yX4_howManySpare cX4_howManySpare 3 (some .int), Cond.methodLink RX4 87 yX4_isSpare, Cond.instanceMethod yX4_isSpare, Cond.selects RX4 yX4_isSpare yX4_isSpare, Cond.code yX4_isSpare cX4_isSpare 3 (some .boolean), Cond.methodLink RX7 242 yX4_howManyNotGuessed, Cond.instanceMethod yX4_howManyNotGuessed, Cond.selects RX4 yX4_howManyNotGuessed yX4_howManyNotGuessed, Cond.code yX4_howManyNotGuessed cX4_howManyNotGuessed 3 (some .int), Cond.methodLink RX7 84 yX3_at]
def wsX7_count : List Cond := .code yX7_count cX7_count 2 (some .int) :: ((wsX7_count_r1 ++ (wsX7_count_r2 ++ (wsX7_count_r3 ++ wsX7_count_r4))) ++ wsX70 ++ wsX60 ++ wsX00 ++ wsX50 ++ wsX20 ++ wsX10 ++ wsX40 ++ wsX30)
def wsX8_init : List Cond := .code yX8_init cX8_init 1 none :: ([.methodLink RX8 1 objectInit, .instanceMethod objectInit, .code objectInit ⟨#[0xb1]⟩ 1 none, .arrayClass .int, .fieldLink RX8 7 "LeafTurnerModel" "now" "[I", .fieldLink RX8 13 "LeafTurnerModel" "then" "[I", .fieldLink RX8 16 "LeafTurnerModel" "past" "[I", .fieldLink RX8 19 "LeafTurnerModel" "snapshot" "[I", .arrayClass .char, .fieldLink RX8 22 "LeafTurnerModel" "text" "[C", .fieldLink RX8 26 "LeafTurnerModel" "guesses" "[I", .fieldLink RX8 29 "LeafTurnerModel" "chosen" "[I", .fieldLink RX8 32 "LeafTurnerModel" "told" "[I"] ++ wsX80)
def wsX8_in : List Cond := .code yX8_in cX8_in 3 (some .boolean) :: ([])
def wsX8_lays : List Cond := .code yX8_lays cX8_lays 5 none :: ([])
def wsX8_records : List Cond := .code yX8_records cX8_records 3 none :: ([.fieldLink RX8 35 "LeafTurnerModel" "states" "I", .fieldLink RX8 16 "LeafTurnerModel" "past" "[I", .methodLink RX8 39 yX8_lays, .static yX8_lays, .initialized RX8, .code yX8_lays cX8_lays 5 none] ++ wsX80)
def wsX8_clears : List Cond := .code yX8_clears cX8_clears 2 none :: ([.fieldLink RX8 7 "LeafTurnerModel" "now" "[I"] ++ wsX80)
def wsX8_adds : List Cond := .code yX8_adds cX8_adds 6 none :: ([.fieldLink RX8 7 "LeafTurnerModel" "now" "[I"] ++ wsX80)
def wsX8_sees : List Cond := .code yX8_sees cX8_sees 3 (some .boolean) :: ([.fieldLink RX8 116 "LeafTurnerModel" "spot" "I", .fieldLink RX8 113 "LeafTurnerModel" "length" "I", .fieldLink RX8 22 "LeafTurnerModel" "text" "[C", .methodLink RX8 61 yX8_in, .static yX8_in, .initialized RX8, .code yX8_in cX8_in 3 (some .boolean)] ++ wsX80)
def wsX8_isDigit : List Cond := .code yX8_isDigit cX8_isDigit 2 (some .boolean) :: ([.fieldLink RX8 32 "LeafTurnerModel" "told" "[I", .fieldLink RX8 54 "LeafTurnerModel" "toldMany" "I", .fieldLink RX8 22 "LeafTurnerModel" "text" "[C", .fieldLink RX8 116 "LeafTurnerModel" "spot" "I", .methodLink RX8 119 yX8_sees, .instanceMethod yX8_sees, .selects RX8 yX8_sees yX8_sees, .initialized RX8, .code yX8_sees cX8_sees 3 (some .boolean), .fieldLink RX8 113 "LeafTurnerModel" "length" "I", .methodLink RX8 61 yX8_in, .static yX8_in, .code yX8_in cX8_in 3 (some .boolean)] ++ wsX80)
def wsX8_takesSign : List Cond := .code yX8_takesSign cX8_takesSign 3 (some .boolean) :: ([.fieldLink RX8 116 "LeafTurnerModel" "spot" "I", .methodLink RX8 119 yX8_sees, .instanceMethod yX8_sees, .selects RX8 yX8_sees yX8_sees, .initialized RX8, .code yX8_sees cX8_sees 3 (some .boolean), .fieldLink RX8 113 "LeafTurnerModel" "length" "I", .fieldLink RX8 22 "LeafTurnerModel" "text" "[C", .methodLink RX8 61 yX8_in, .static yX8_in, .code yX8_in cX8_in 3 (some .boolean)] ++ wsX80)
def wsX8_isLeafTold : List Cond := .code yX8_isLeafTold cX8_isLeafTold 1 (some .boolean) :: ([.fieldLink RX8 32 "LeafTurnerModel" "told" "[I", .fieldLink RX8 54 "LeafTurnerModel" "toldMany" "I", .methodLink RX8 123 yX8_isDigit, .instanceMethod yX8_isDigit, .selects RX8 yX8_isDigit yX8_isDigit, .initialized RX8, .code yX8_isDigit cX8_isDigit 2 (some .boolean), .fieldLink RX8 22 "LeafTurnerModel" "text" "[C", .fieldLink RX8 116 "LeafTurnerModel" "spot" "I", .methodLink RX8 119 yX8_sees, .instanceMethod yX8_sees, .selects RX8 yX8_sees yX8_sees, .code yX8_sees cX8_sees 3 (some .boolean), .fieldLink RX8 113 "LeafTurnerModel" "length" "I", .methodLink RX8 61 yX8_in, .static yX8_in, .code yX8_in cX8_in 3 (some .boolean), .methodLink RX8 126 yX8_takesSign, .instanceMethod yX8_takesSign, .selects RX8 yX8_takesSign yX8_takesSign, .code yX8_takesSign cX8_takesSign 3 (some .boolean)] ++ wsX80)
def wsX8_fault_r1 : List Cond := [Cond.fieldLink RX8 116 "LeafTurnerModel" "spot" "I", Cond.fieldLink RX8 54 "LeafTurnerModel" "toldMany" "I", Cond.fieldLink RX8 113 "LeafTurnerModel" "length" "I", Cond.methodLink RX8 129 yX8_isLeafTold, Cond.instanceMethod yX8_isLeafTold, Cond.selects RX8 yX8_isLeafTold yX8_isLeafTold, Cond.initialized RX8, Cond.code yX8_isLeafTold cX8_isLeafTold 1 (some .boolean), Cond.fieldLink RX8 32 "LeafTurnerModel" "told" "[I", Cond.methodLink RX8 123 yX8_isDigit, Cond.instanceMethod yX8_isDigit, Cond.selects RX8 yX8_isDigit yX8_isDigit, Cond.code yX8_isDigit cX8_isDigit 2 (some .boolean), Cond.fieldLink RX8 22 "LeafTurnerModel" "text" "[C", Cond.methodLink RX8 119 yX8_sees, Cond.instanceMethod yX8_sees, Cond.selects RX8 yX8_sees yX8_sees, Cond.code yX8_sees cX8_sees 3 (some .boolean), Cond.methodLink RX8 61 yX8_in, Cond.static yX8_in, Cond.code yX8_in cX8_in 3 (some .boolean), Cond.methodLink RX8 126 yX8_takesSign, Cond.instanceMethod yX8_takesSign, Cond.selects RX8 yX8_takesSign yX8_takesSign]
def wsX8_fault_r2 : List Cond := [Cond.code yX8_takesSign cX8_takesSign 3 (some .boolean)]
def wsX8_fault : List Cond := .code yX8_fault cX8_fault 2 (some .int) :: ((wsX8_fault_r1 ++ wsX8_fault_r2) ++ wsX80)
def wsX8_takeBook_r1 : List Cond := [Cond.fieldLink RX8 7 "LeafTurnerModel" "now" "[I", Cond.fieldLink RX8 54 "LeafTurnerModel" "toldMany" "I", Cond.fieldLink RX8 32 "LeafTurnerModel" "told" "[I", Cond.methodLink RX8 43 yX8_fault, Cond.instanceMethod yX8_fault, Cond.selects RX8 yX8_fault yX8_fault, Cond.initialized RX8, Cond.code yX8_fault cX8_fault 2 (some .int), Cond.fieldLink RX8 116 "LeafTurnerModel" "spot" "I", Cond.fieldLink RX8 113 "LeafTurnerModel" "length" "I", Cond.methodLink RX8 129 yX8_isLeafTold, Cond.instanceMethod yX8_isLeafTold, Cond.selects RX8 yX8_isLeafTold yX8_isLeafTold, Cond.code yX8_isLeafTold cX8_isLeafTold 1 (some .boolean), Cond.methodLink RX8 123 yX8_isDigit, Cond.instanceMethod yX8_isDigit, Cond.selects RX8 yX8_isDigit yX8_isDigit, Cond.code yX8_isDigit cX8_isDigit 2 (some .boolean), Cond.fieldLink RX8 22 "LeafTurnerModel" "text" "[C", Cond.methodLink RX8 119 yX8_sees, Cond.instanceMethod yX8_sees, Cond.selects RX8 yX8_sees yX8_sees, Cond.code yX8_sees cX8_sees 3 (some .boolean), Cond.methodLink RX8 61 yX8_in]
def wsX8_takeBook_r2 : List Cond := [Cond.static yX8_in, Cond.code yX8_in cX8_in 3 (some .boolean), Cond.methodLink RX8 126 yX8_takesSign, Cond.instanceMethod yX8_takesSign, Cond.selects RX8 yX8_takesSign yX8_takesSign, Cond.code yX8_takesSign cX8_takesSign 3 (some .boolean), Cond.methodLink RX8 47 yX8_records, Cond.instanceMethod yX8_records, Cond.selects RX8 yX8_records yX8_records, Cond.code yX8_records cX8_records 3 none, Cond.fieldLink RX8 35 "LeafTurnerModel" "states" "I", Cond.fieldLink RX8 16 "LeafTurnerModel" "past" "[I", Cond.methodLink RX8 39 yX8_lays, Cond.static yX8_lays, Cond.code yX8_lays cX8_lays 5 none, Cond.methodLink RX8 51 yX8_clears, Cond.instanceMethod yX8_clears, Cond.selects RX8 yX8_clears yX8_clears, Cond.code yX8_clears cX8_clears 2 none, Cond.methodLink RX8 57 yX8_adds, Cond.instanceMethod yX8_adds, Cond.selects RX8 yX8_adds yX8_adds, Cond.code yX8_adds cX8_adds 6 none]
def wsX8_takeBook : List Cond := .code yX8_takeBook cX8_takeBook 3 (some .int) :: ((wsX8_takeBook_r1 ++ wsX8_takeBook_r2) ++ wsX80)
def wsX8_layBook : List Cond := .code yX8_layBook cX8_layBook 7 (some .int) :: ([.fieldLink RX8 7 "LeafTurnerModel" "now" "[I", .methodLink RX8 61 yX8_in, .static yX8_in, .initialized RX8, .code yX8_in cX8_in 3 (some .boolean), .methodLink RX8 47 yX8_records, .instanceMethod yX8_records, .selects RX8 yX8_records yX8_records, .code yX8_records cX8_records 3 none, .fieldLink RX8 35 "LeafTurnerModel" "states" "I", .fieldLink RX8 16 "LeafTurnerModel" "past" "[I", .methodLink RX8 39 yX8_lays, .static yX8_lays, .code yX8_lays cX8_lays 5 none, .methodLink RX8 51 yX8_clears, .instanceMethod yX8_clears, .selects RX8 yX8_clears yX8_clears, .code yX8_clears cX8_clears 2 none, .methodLink RX8 57 yX8_adds, .instanceMethod yX8_adds, .selects RX8 yX8_adds yX8_adds, .code yX8_adds cX8_adds 6 none] ++ wsX80)
def wsX8_isPage : List Cond := .code yX8_isPage cX8_isPage 2 (some .boolean) :: ([.fieldLink RX8 7 "LeafTurnerModel" "now" "[I", .methodLink RX8 61 yX8_in, .static yX8_in, .initialized RX8, .code yX8_in cX8_in 3 (some .boolean)] ++ wsX80)
def wsX8_print : List Cond := .code yX8_print cX8_print 4 (some .int) :: ([.fieldLink RX8 7 "LeafTurnerModel" "now" "[I", .methodLink RX8 65 yX8_isPage, .instanceMethod yX8_isPage, .selects RX8 yX8_isPage yX8_isPage, .initialized RX8, .code yX8_isPage cX8_isPage 2 (some .boolean), .methodLink RX8 61 yX8_in, .static yX8_in, .code yX8_in cX8_in 3 (some .boolean), .methodLink RX8 47 yX8_records, .instanceMethod yX8_records, .selects RX8 yX8_records yX8_records, .code yX8_records cX8_records 3 none, .fieldLink RX8 35 "LeafTurnerModel" "states" "I", .fieldLink RX8 16 "LeafTurnerModel" "past" "[I", .methodLink RX8 39 yX8_lays, .static yX8_lays, .code yX8_lays cX8_lays 5 none] ++ wsX80)
def wsX8_wouldTurn : List Cond := .code yX8_wouldTurn cX8_wouldTurn 5 (some .int) :: ([])
def wsX8_learns : List Cond := .code yX8_learns cX8_learns 4 none :: ([])
def wsX8_turns : List Cond := .code yX8_turns cX8_turns 2 (some .int) :: ([.methodLink RX8 69 yX8_wouldTurn, .static yX8_wouldTurn, .initialized RX8, .code yX8_wouldTurn cX8_wouldTurn 5 (some .int), .methodLink RX8 73 yX8_learns, .static yX8_learns, .code yX8_learns cX8_learns 4 none])
def wsX8_isRight : List Cond := .code yX8_isRight cX8_isRight 1 (some .boolean) :: ([.fieldLink RX8 7 "LeafTurnerModel" "now" "[I"] ++ wsX80)
def wsX8_turn : List Cond := .code yX8_turn cX8_turn 1 (some .int) :: ([.fieldLink RX8 7 "LeafTurnerModel" "now" "[I", .methodLink RX8 77 yX8_isRight, .instanceMethod yX8_isRight, .selects RX8 yX8_isRight yX8_isRight, .initialized RX8, .code yX8_isRight cX8_isRight 1 (some .boolean), .methodLink RX8 47 yX8_records, .instanceMethod yX8_records, .selects RX8 yX8_records yX8_records, .code yX8_records cX8_records 3 none, .fieldLink RX8 35 "LeafTurnerModel" "states" "I", .fieldLink RX8 16 "LeafTurnerModel" "past" "[I", .methodLink RX8 39 yX8_lays, .static yX8_lays, .code yX8_lays cX8_lays 5 none, .methodLink RX8 81 yX8_turns, .static yX8_turns, .code yX8_turns cX8_turns 2 (some .int), .methodLink RX8 69 yX8_wouldTurn, .static yX8_wouldTurn, .code yX8_wouldTurn cX8_wouldTurn 5 (some .int), .methodLink RX8 73 yX8_learns, .static yX8_learns, .code yX8_learns cX8_learns 4 none] ++ wsX80)
def wsX8_turnBack : List Cond := .code yX8_turnBack cX8_turnBack 1 (some .int) :: ([.fieldLink RX8 7 "LeafTurnerModel" "now" "[I", .methodLink RX8 47 yX8_records, .instanceMethod yX8_records, .selects RX8 yX8_records yX8_records, .initialized RX8, .code yX8_records cX8_records 3 none, .fieldLink RX8 35 "LeafTurnerModel" "states" "I", .fieldLink RX8 16 "LeafTurnerModel" "past" "[I", .methodLink RX8 39 yX8_lays, .static yX8_lays, .code yX8_lays cX8_lays 5 none] ++ wsX80)
def wsX8_isGood : List Cond := .code yX8_isGood cX8_isGood 2 (some .boolean) :: ([])
def wsX8_openOn : List Cond := .code yX8_openOn cX8_openOn 2 (some .int) :: ([])
def wsX8_takes : List Cond := .code yX8_takes cX8_takes 6 none :: ([.methodLink RX8 92 yX8_isGood, .static yX8_isGood, .initialized RX8, .code yX8_isGood cX8_isGood 2 (some .boolean)])
def wsX8_shots : List Cond := .code yX8_shots cX8_shots 4 (some .int) :: ([.methodLink RX8 85 yX8_openOn, .static yX8_openOn, .initialized RX8, .code yX8_openOn cX8_openOn 2 (some .int), .methodLink RX8 88 yX8_takes, .static yX8_takes, .code yX8_takes cX8_takes 6 none, .methodLink RX8 92 yX8_isGood, .static yX8_isGood, .code yX8_isGood cX8_isGood 2 (some .boolean)])
def wsX8_shoot : List Cond := .code yX8_shoot cX8_shoot 2 (some .int) :: ([.fieldLink RX8 7 "LeafTurnerModel" "now" "[I", .fieldLink RX8 13 "LeafTurnerModel" "then" "[I", .methodLink RX8 39 yX8_lays, .static yX8_lays, .initialized RX8, .code yX8_lays cX8_lays 5 none, .methodLink RX8 96 yX8_shots, .static yX8_shots, .code yX8_shots cX8_shots 4 (some .int), .methodLink RX8 85 yX8_openOn, .static yX8_openOn, .code yX8_openOn cX8_openOn 2 (some .int), .methodLink RX8 88 yX8_takes, .static yX8_takes, .code yX8_takes cX8_takes 6 none, .methodLink RX8 92 yX8_isGood, .static yX8_isGood, .code yX8_isGood cX8_isGood 2 (some .boolean), .methodLink RX8 47 yX8_records, .instanceMethod yX8_records, .selects RX8 yX8_records yX8_records, .code yX8_records cX8_records 3 none, .fieldLink RX8 35 "LeafTurnerModel" "states" "I", .fieldLink RX8 16 "LeafTurnerModel" "past" "[I"] ++ wsX80)
def wsX8_scan_r1 : List Cond := [Cond.fieldLink RX8 7 "LeafTurnerModel" "now" "[I", Cond.fieldLink RX8 13 "LeafTurnerModel" "then" "[I", Cond.methodLink RX8 61 yX8_in, Cond.static yX8_in, Cond.initialized RX8, Cond.code yX8_in cX8_in 3 (some .boolean), Cond.methodLink RX8 39 yX8_lays, Cond.static yX8_lays, Cond.code yX8_lays cX8_lays 5 none, Cond.methodLink RX8 96 yX8_shots, Cond.static yX8_shots, Cond.code yX8_shots cX8_shots 4 (some .int), Cond.methodLink RX8 85 yX8_openOn, Cond.static yX8_openOn, Cond.code yX8_openOn cX8_openOn 2 (some .int), Cond.methodLink RX8 88 yX8_takes, Cond.static yX8_takes, Cond.code yX8_takes cX8_takes 6 none, Cond.methodLink RX8 92 yX8_isGood, Cond.static yX8_isGood, Cond.code yX8_isGood cX8_isGood 2 (some .boolean), Cond.methodLink RX8 81 yX8_turns, Cond.static yX8_turns, Cond.code yX8_turns cX8_turns 2 (some .int)]
def wsX8_scan_r2 : List Cond := [Cond.methodLink RX8 69 yX8_wouldTurn, Cond.static yX8_wouldTurn, Cond.code yX8_wouldTurn cX8_wouldTurn 5 (some .int), Cond.methodLink RX8 73 yX8_learns, Cond.static yX8_learns, Cond.code yX8_learns cX8_learns 4 none, Cond.methodLink RX8 47 yX8_records, Cond.instanceMethod yX8_records, Cond.selects RX8 yX8_records yX8_records, Cond.code yX8_records cX8_records 3 none, Cond.fieldLink RX8 35 "LeafTurnerModel" "states" "I", Cond.fieldLink RX8 16 "LeafTurnerModel" "past" "[I"]
def wsX8_scan : List Cond := .code yX8_scan cX8_scan 5 (some .int) :: ((wsX8_scan_r1 ++ wsX8_scan_r2) ++ wsX80)
def wsX8_isPicture : List Cond := .code yX8_isPicture cX8_isPicture 2 (some .boolean) :: ([.fieldLink RX8 7 "LeafTurnerModel" "now" "[I", .methodLink RX8 61 yX8_in, .static yX8_in, .initialized RX8, .code yX8_in cX8_in 3 (some .boolean)] ++ wsX80)
def wsX8_throwAway : List Cond := .code yX8_throwAway cX8_throwAway 3 (some .int) :: ([.fieldLink RX8 7 "LeafTurnerModel" "now" "[I", .methodLink RX8 99 yX8_isPicture, .instanceMethod yX8_isPicture, .selects RX8 yX8_isPicture yX8_isPicture, .initialized RX8, .code yX8_isPicture cX8_isPicture 2 (some .boolean), .methodLink RX8 61 yX8_in, .static yX8_in, .code yX8_in cX8_in 3 (some .boolean), .methodLink RX8 47 yX8_records, .instanceMethod yX8_records, .selects RX8 yX8_records yX8_records, .code yX8_records cX8_records 3 none, .fieldLink RX8 35 "LeafTurnerModel" "states" "I", .fieldLink RX8 16 "LeafTurnerModel" "past" "[I", .methodLink RX8 39 yX8_lays, .static yX8_lays, .code yX8_lays cX8_lays 5 none] ++ wsX80)
def wsX8_becomes : List Cond := .code yX8_becomes cX8_becomes 4 (some .int) :: ([.fieldLink RX8 7 "LeafTurnerModel" "now" "[I", .methodLink RX8 47 yX8_records, .instanceMethod yX8_records, .selects RX8 yX8_records yX8_records, .initialized RX8, .code yX8_records cX8_records 3 none, .fieldLink RX8 35 "LeafTurnerModel" "states" "I", .fieldLink RX8 16 "LeafTurnerModel" "past" "[I", .methodLink RX8 39 yX8_lays, .static yX8_lays, .code yX8_lays cX8_lays 5 none] ++ wsX80)
def wsX8_setSuction : List Cond := .code yX8_setSuction cX8_setSuction 2 (some .int) :: ([.methodLink RX8 61 yX8_in, .static yX8_in, .initialized RX8, .code yX8_in cX8_in 3 (some .boolean), .methodLink RX8 102 yX8_becomes, .instanceMethod yX8_becomes, .selects RX8 yX8_becomes yX8_becomes, .code yX8_becomes cX8_becomes 4 (some .int), .fieldLink RX8 7 "LeafTurnerModel" "now" "[I", .methodLink RX8 47 yX8_records, .instanceMethod yX8_records, .selects RX8 yX8_records yX8_records, .code yX8_records cX8_records 3 none, .fieldLink RX8 35 "LeafTurnerModel" "states" "I", .fieldLink RX8 16 "LeafTurnerModel" "past" "[I", .methodLink RX8 39 yX8_lays, .static yX8_lays, .code yX8_lays cX8_lays 5 none] ++ wsX80)
def wsX8_set : List Cond := .code yX8_set cX8_set 3 (some .int) :: ([.methodLink RX8 61 yX8_in, .static yX8_in, .initialized RX8, .code yX8_in cX8_in 3 (some .boolean), .methodLink RX8 102 yX8_becomes, .instanceMethod yX8_becomes, .selects RX8 yX8_becomes yX8_becomes, .code yX8_becomes cX8_becomes 4 (some .int), .fieldLink RX8 7 "LeafTurnerModel" "now" "[I", .methodLink RX8 47 yX8_records, .instanceMethod yX8_records, .selects RX8 yX8_records yX8_records, .code yX8_records cX8_records 3 none, .fieldLink RX8 35 "LeafTurnerModel" "states" "I", .fieldLink RX8 16 "LeafTurnerModel" "past" "[I", .methodLink RX8 39 yX8_lays, .static yX8_lays, .code yX8_lays cX8_lays 5 none] ++ wsX80)
def wsX8_ofPicture : List Cond := .code yX8_ofPicture cX8_ofPicture 3 (some .int) :: ([.fieldLink RX8 7 "LeafTurnerModel" "now" "[I"] ++ wsX80)
def wsX8_guess : List Cond := .code yX8_guess cX8_guess 5 (some .int) :: ([.fieldLink RX8 7 "LeafTurnerModel" "now" "[I", .fieldLink RX8 26 "LeafTurnerModel" "guesses" "[I", .methodLink RX8 106 yX8_ofPicture, .instanceMethod yX8_ofPicture, .selects RX8 yX8_ofPicture yX8_ofPicture, .initialized RX8, .code yX8_ofPicture cX8_ofPicture 3 (some .int), .methodLink RX8 65 yX8_isPage, .instanceMethod yX8_isPage, .selects RX8 yX8_isPage yX8_isPage, .code yX8_isPage cX8_isPage 2 (some .boolean), .methodLink RX8 61 yX8_in, .static yX8_in, .code yX8_in cX8_in 3 (some .boolean)] ++ wsX80)
def wsX8_guessesAll : List Cond := .code yX8_guessesAll cX8_guessesAll 5 none :: ([.fieldLink RX8 29 "LeafTurnerModel" "chosen" "[I", .fieldLink RX8 7 "LeafTurnerModel" "now" "[I", .fieldLink RX8 26 "LeafTurnerModel" "guesses" "[I", .methodLink RX8 109 yX8_guess, .instanceMethod yX8_guess, .selects RX8 yX8_guess yX8_guess, .initialized RX8, .code yX8_guess cX8_guess 5 (some .int), .methodLink RX8 106 yX8_ofPicture, .instanceMethod yX8_ofPicture, .selects RX8 yX8_ofPicture yX8_ofPicture, .code yX8_ofPicture cX8_ofPicture 3 (some .int), .methodLink RX8 65 yX8_isPage, .instanceMethod yX8_isPage, .selects RX8 yX8_isPage yX8_isPage, .code yX8_isPage cX8_isPage 2 (some .boolean), .methodLink RX8 61 yX8_in, .static yX8_in, .code yX8_in cX8_in 3 (some .boolean)] ++ wsX80)
def wsX8_isDoubtful : List Cond := .code yX8_isDoubtful cX8_isDoubtful 2 (some .boolean) :: ([.fieldLink RX8 29 "LeafTurnerModel" "chosen" "[I", .methodLink RX8 106 yX8_ofPicture, .instanceMethod yX8_ofPicture, .selects RX8 yX8_ofPicture yX8_ofPicture, .initialized RX8, .code yX8_ofPicture cX8_ofPicture 3 (some .int), .fieldLink RX8 7 "LeafTurnerModel" "now" "[I"] ++ wsX80)
def wsX8_isSpare : List Cond := .code yX8_isSpare cX8_isSpare 2 (some .boolean) :: ([.fieldLink RX8 26 "LeafTurnerModel" "guesses" "[I", .fieldLink RX8 29 "LeafTurnerModel" "chosen" "[I"] ++ wsX80)
def wsX8_shownBy : List Cond := .code yX8_shownBy cX8_shownBy 4 (some .int) :: ([.fieldLink RX8 7 "LeafTurnerModel" "now" "[I", .methodLink RX8 106 yX8_ofPicture, .instanceMethod yX8_ofPicture, .selects RX8 yX8_ofPicture yX8_ofPicture, .initialized RX8, .code yX8_ofPicture cX8_ofPicture 3 (some .int)] ++ wsX80)
def wsX8_type : List Cond := .code yX8_type cX8_type 2 (some .int) :: ([.fieldLink RX8 113 "LeafTurnerModel" "length" "I", .fieldLink RX8 22 "LeafTurnerModel" "text" "[C"] ++ wsX80)
def wsX8_clearText : List Cond := .code yX8_clearText cX8_clearText 2 (some .int) :: ([.fieldLink RX8 113 "LeafTurnerModel" "length" "I"] ++ wsX80)
def wsX8_undo : List Cond := .code yX8_undo cX8_undo 1 (some .int) :: ([.fieldLink RX8 35 "LeafTurnerModel" "states" "I", .fieldLink RX8 16 "LeafTurnerModel" "past" "[I", .fieldLink RX8 7 "LeafTurnerModel" "now" "[I", .methodLink RX8 39 yX8_lays, .static yX8_lays, .initialized RX8, .code yX8_lays cX8_lays 5 none] ++ wsX80)
def wsX8_keep : List Cond := .code yX8_keep cX8_keep 1 (some .int) :: ([.fieldLink RX8 7 "LeafTurnerModel" "now" "[I", .fieldLink RX8 19 "LeafTurnerModel" "snapshot" "[I", .fieldLink RX8 132 "LeafTurnerModel" "isKept" "Z", .methodLink RX8 39 yX8_lays, .static yX8_lays, .initialized RX8, .code yX8_lays cX8_lays 5 none] ++ wsX80)
def wsX8_restore : List Cond := .code yX8_restore cX8_restore 1 (some .int) :: ([.fieldLink RX8 132 "LeafTurnerModel" "isKept" "Z", .fieldLink RX8 7 "LeafTurnerModel" "now" "[I", .fieldLink RX8 19 "LeafTurnerModel" "snapshot" "[I", .methodLink RX8 47 yX8_records, .instanceMethod yX8_records, .selects RX8 yX8_records yX8_records, .initialized RX8, .code yX8_records cX8_records 3 none, .fieldLink RX8 35 "LeafTurnerModel" "states" "I", .fieldLink RX8 16 "LeafTurnerModel" "past" "[I", .methodLink RX8 39 yX8_lays, .static yX8_lays, .code yX8_lays cX8_lays 5 none] ++ wsX80)
def wsX8_leaf : List Cond := .code yX8_leaf cX8_leaf 3 (some .int) :: ([.fieldLink RX8 7 "LeafTurnerModel" "now" "[I", .methodLink RX8 61 yX8_in, .static yX8_in, .initialized RX8, .code yX8_in cX8_in 3 (some .boolean)] ++ wsX80)
def wsX8_page_r1 : List Cond := [Cond.fieldLink RX8 7 "LeafTurnerModel" "now" "[I", Cond.fieldLink RX8 29 "LeafTurnerModel" "chosen" "[I", Cond.methodLink RX8 65 yX8_isPage, Cond.instanceMethod yX8_isPage, Cond.selects RX8 yX8_isPage yX8_isPage, Cond.initialized RX8, Cond.code yX8_isPage cX8_isPage 2 (some .boolean), Cond.methodLink RX8 61 yX8_in, Cond.static yX8_in, Cond.code yX8_in cX8_in 3 (some .boolean), Cond.methodLink RX8 136 yX8_guessesAll, Cond.instanceMethod yX8_guessesAll, Cond.selects RX8 yX8_guessesAll yX8_guessesAll, Cond.code yX8_guessesAll cX8_guessesAll 5 none, Cond.fieldLink RX8 26 "LeafTurnerModel" "guesses" "[I", Cond.methodLink RX8 109 yX8_guess, Cond.instanceMethod yX8_guess, Cond.selects RX8 yX8_guess yX8_guess, Cond.code yX8_guess cX8_guess 5 (some .int), Cond.methodLink RX8 106 yX8_ofPicture, Cond.instanceMethod yX8_ofPicture, Cond.selects RX8 yX8_ofPicture yX8_ofPicture, Cond.code yX8_ofPicture cX8_ofPicture 3 (some .int), Cond.methodLink RX8 139 yX8_shownBy]
def wsX8_page_r2 : List Cond := [Cond.instanceMethod yX8_shownBy, Cond.selects RX8 yX8_shownBy yX8_shownBy, Cond.code yX8_shownBy cX8_shownBy 4 (some .int), Cond.methodLink RX8 142 yX8_isDoubtful, Cond.instanceMethod yX8_isDoubtful, Cond.selects RX8 yX8_isDoubtful yX8_isDoubtful, Cond.code yX8_isDoubtful cX8_isDoubtful 2 (some .boolean), Cond.methodLink RX8 92 yX8_isGood, Cond.static yX8_isGood, Cond.code yX8_isGood cX8_isGood 2 (some .boolean)]
def wsX8_page : List Cond := .code yX8_page cX8_page 3 (some .int) :: ((wsX8_page_r1 ++ wsX8_page_r2) ++ wsX80)
def wsX8_picture_r1 : List Cond := [Cond.fieldLink RX8 26 "LeafTurnerModel" "guesses" "[I", Cond.methodLink RX8 99 yX8_isPicture, Cond.instanceMethod yX8_isPicture, Cond.selects RX8 yX8_isPicture yX8_isPicture, Cond.initialized RX8, Cond.code yX8_isPicture cX8_isPicture 2 (some .boolean), Cond.fieldLink RX8 7 "LeafTurnerModel" "now" "[I", Cond.methodLink RX8 61 yX8_in, Cond.static yX8_in, Cond.code yX8_in cX8_in 3 (some .boolean), Cond.methodLink RX8 136 yX8_guessesAll, Cond.instanceMethod yX8_guessesAll, Cond.selects RX8 yX8_guessesAll yX8_guessesAll, Cond.code yX8_guessesAll cX8_guessesAll 5 none, Cond.fieldLink RX8 29 "LeafTurnerModel" "chosen" "[I", Cond.methodLink RX8 109 yX8_guess, Cond.instanceMethod yX8_guess, Cond.selects RX8 yX8_guess yX8_guess, Cond.code yX8_guess cX8_guess 5 (some .int), Cond.methodLink RX8 106 yX8_ofPicture, Cond.instanceMethod yX8_ofPicture, Cond.selects RX8 yX8_ofPicture yX8_ofPicture, Cond.code yX8_ofPicture cX8_ofPicture 3 (some .int), Cond.methodLink RX8 65 yX8_isPage]
def wsX8_picture_r2 : List Cond := [Cond.instanceMethod yX8_isPage, Cond.selects RX8 yX8_isPage yX8_isPage, Cond.code yX8_isPage cX8_isPage 2 (some .boolean), Cond.methodLink RX8 145 yX8_isSpare, Cond.instanceMethod yX8_isSpare, Cond.selects RX8 yX8_isSpare yX8_isSpare, Cond.code yX8_isSpare cX8_isSpare 2 (some .boolean)]
def wsX8_picture : List Cond := .code yX8_picture cX8_picture 3 (some .int) :: ((wsX8_picture_r1 ++ wsX8_picture_r2) ++ wsX80)
def wsX8_open : List Cond := .code yX8_open cX8_open 2 (some .int) :: ([.fieldLink RX8 7 "LeafTurnerModel" "now" "[I", .methodLink RX8 61 yX8_in, .static yX8_in, .initialized RX8, .code yX8_in cX8_in 3 (some .boolean), .methodLink RX8 85 yX8_openOn, .static yX8_openOn, .code yX8_openOn cX8_openOn 2 (some .int)] ++ wsX80)
def wsX8_would : List Cond := .code yX8_would cX8_would 2 (some .int) :: ([.fieldLink RX8 7 "LeafTurnerModel" "now" "[I", .methodLink RX8 61 yX8_in, .static yX8_in, .initialized RX8, .code yX8_in cX8_in 3 (some .boolean), .methodLink RX8 77 yX8_isRight, .instanceMethod yX8_isRight, .selects RX8 yX8_isRight yX8_isRight, .code yX8_isRight cX8_isRight 1 (some .boolean), .methodLink RX8 69 yX8_wouldTurn, .static yX8_wouldTurn, .code yX8_wouldTurn cX8_wouldTurn 5 (some .int)] ++ wsX80)
def wsX8_best : List Cond := .code yX8_best cX8_best 2 (some .int) :: ([.fieldLink RX8 7 "LeafTurnerModel" "now" "[I", .methodLink RX8 77 yX8_isRight, .instanceMethod yX8_isRight, .selects RX8 yX8_isRight yX8_isRight, .initialized RX8, .code yX8_isRight cX8_isRight 1 (some .boolean), .methodLink RX8 69 yX8_wouldTurn, .static yX8_wouldTurn, .code yX8_wouldTurn cX8_wouldTurn 5 (some .int)] ++ wsX80)
def wsX8_lacking : List Cond := .code yX8_lacking cX8_lacking 4 (some .int) :: ([.fieldLink RX8 7 "LeafTurnerModel" "now" "[I", .fieldLink RX8 29 "LeafTurnerModel" "chosen" "[I", .methodLink RX8 136 yX8_guessesAll, .instanceMethod yX8_guessesAll, .selects RX8 yX8_guessesAll yX8_guessesAll, .initialized RX8, .code yX8_guessesAll cX8_guessesAll 5 none, .fieldLink RX8 26 "LeafTurnerModel" "guesses" "[I", .methodLink RX8 109 yX8_guess, .instanceMethod yX8_guess, .selects RX8 yX8_guess yX8_guess, .code yX8_guess cX8_guess 5 (some .int), .methodLink RX8 106 yX8_ofPicture, .instanceMethod yX8_ofPicture, .selects RX8 yX8_ofPicture yX8_ofPicture, .code yX8_ofPicture cX8_ofPicture 3 (some .int), .methodLink RX8 65 yX8_isPage, .instanceMethod yX8_isPage, .selects RX8 yX8_isPage yX8_isPage, .code yX8_isPage cX8_isPage 2 (some .boolean), .methodLink RX8 61 yX8_in, .static yX8_in, .code yX8_in cX8_in 3 (some .boolean)] ++ wsX80)
def wsX8_pages_r1 : List Cond := [Cond.fieldLink RX8 7 "LeafTurnerModel" "now" "[I", Cond.fieldLink RX8 29 "LeafTurnerModel" "chosen" "[I", Cond.methodLink RX8 136 yX8_guessesAll, Cond.instanceMethod yX8_guessesAll, Cond.selects RX8 yX8_guessesAll yX8_guessesAll, Cond.initialized RX8, Cond.code yX8_guessesAll cX8_guessesAll 5 none, Cond.fieldLink RX8 26 "LeafTurnerModel" "guesses" "[I", Cond.methodLink RX8 109 yX8_guess, Cond.instanceMethod yX8_guess, Cond.selects RX8 yX8_guess yX8_guess, Cond.code yX8_guess cX8_guess 5 (some .int), Cond.methodLink RX8 106 yX8_ofPicture, Cond.instanceMethod yX8_ofPicture, Cond.selects RX8 yX8_ofPicture yX8_ofPicture, Cond.code yX8_ofPicture cX8_ofPicture 3 (some .int), Cond.methodLink RX8 65 yX8_isPage, Cond.instanceMethod yX8_isPage, Cond.selects RX8 yX8_isPage yX8_isPage, Cond.code yX8_isPage cX8_isPage 2 (some .boolean), Cond.methodLink RX8 61 yX8_in, Cond.static yX8_in, Cond.code yX8_in cX8_in 3 (some .boolean), Cond.methodLink RX8 142 yX8_isDoubtful]
def wsX8_pages_r2 : List Cond := [Cond.instanceMethod yX8_isDoubtful, Cond.selects RX8 yX8_isDoubtful yX8_isDoubtful, Cond.code yX8_isDoubtful cX8_isDoubtful 2 (some .boolean)]
def wsX8_pages : List Cond := .code yX8_pages cX8_pages 5 (some .int) :: ((wsX8_pages_r1 ++ wsX8_pages_r2) ++ wsX80)
def wsX8_pictures_r1 : List Cond := [Cond.fieldLink RX8 7 "LeafTurnerModel" "now" "[I", Cond.fieldLink RX8 26 "LeafTurnerModel" "guesses" "[I", Cond.methodLink RX8 136 yX8_guessesAll, Cond.instanceMethod yX8_guessesAll, Cond.selects RX8 yX8_guessesAll yX8_guessesAll, Cond.initialized RX8, Cond.code yX8_guessesAll cX8_guessesAll 5 none, Cond.fieldLink RX8 29 "LeafTurnerModel" "chosen" "[I", Cond.methodLink RX8 109 yX8_guess, Cond.instanceMethod yX8_guess, Cond.selects RX8 yX8_guess yX8_guess, Cond.code yX8_guess cX8_guess 5 (some .int), Cond.methodLink RX8 106 yX8_ofPicture, Cond.instanceMethod yX8_ofPicture, Cond.selects RX8 yX8_ofPicture yX8_ofPicture, Cond.code yX8_ofPicture cX8_ofPicture 3 (some .int), Cond.methodLink RX8 65 yX8_isPage, Cond.instanceMethod yX8_isPage, Cond.selects RX8 yX8_isPage yX8_isPage, Cond.code yX8_isPage cX8_isPage 2 (some .boolean), Cond.methodLink RX8 61 yX8_in, Cond.static yX8_in, Cond.code yX8_in cX8_in 3 (some .boolean), Cond.methodLink RX8 145 yX8_isSpare]
def wsX8_pictures_r2 : List Cond := [Cond.instanceMethod yX8_isSpare, Cond.selects RX8 yX8_isSpare yX8_isSpare, Cond.code yX8_isSpare cX8_isSpare 2 (some .boolean)]
def wsX8_pictures : List Cond := .code yX8_pictures cX8_pictures 5 (some .int) :: ((wsX8_pictures_r1 ++ wsX8_pictures_r2) ++ wsX80)
def wsX8_count_r1 : List Cond := [Cond.fieldLink RX8 7 "LeafTurnerModel" "now" "[I", Cond.fieldLink RX8 35 "LeafTurnerModel" "states" "I", Cond.fieldLink RX8 113 "LeafTurnerModel" "length" "I", Cond.methodLink RX8 148 yX8_pages, Cond.instanceMethod yX8_pages, Cond.selects RX8 yX8_pages yX8_pages, Cond.initialized RX8, Cond.code yX8_pages cX8_pages 5 (some .int), Cond.fieldLink RX8 29 "LeafTurnerModel" "chosen" "[I", Cond.methodLink RX8 136 yX8_guessesAll, Cond.instanceMethod yX8_guessesAll, Cond.selects RX8 yX8_guessesAll yX8_guessesAll, Cond.code yX8_guessesAll cX8_guessesAll 5 none, Cond.fieldLink RX8 26 "LeafTurnerModel" "guesses" "[I", Cond.methodLink RX8 109 yX8_guess, Cond.instanceMethod yX8_guess, Cond.selects RX8 yX8_guess yX8_guess, Cond.code yX8_guess cX8_guess 5 (some .int), Cond.methodLink RX8 106 yX8_ofPicture, Cond.instanceMethod yX8_ofPicture, Cond.selects RX8 yX8_ofPicture yX8_ofPicture, Cond.code yX8_ofPicture cX8_ofPicture 3 (some .int), Cond.methodLink RX8 65 yX8_isPage, Cond.instanceMethod yX8_isPage]
def wsX8_count_r2 : List Cond := [Cond.selects RX8 yX8_isPage yX8_isPage, Cond.code yX8_isPage cX8_isPage 2 (some .boolean), Cond.methodLink RX8 61 yX8_in, Cond.static yX8_in, Cond.code yX8_in cX8_in 3 (some .boolean), Cond.methodLink RX8 142 yX8_isDoubtful, Cond.instanceMethod yX8_isDoubtful, Cond.selects RX8 yX8_isDoubtful yX8_isDoubtful, Cond.code yX8_isDoubtful cX8_isDoubtful 2 (some .boolean), Cond.methodLink RX8 151 yX8_pictures, Cond.instanceMethod yX8_pictures, Cond.selects RX8 yX8_pictures yX8_pictures, Cond.code yX8_pictures cX8_pictures 5 (some .int), Cond.methodLink RX8 145 yX8_isSpare, Cond.instanceMethod yX8_isSpare, Cond.selects RX8 yX8_isSpare yX8_isSpare, Cond.code yX8_isSpare cX8_isSpare 2 (some .boolean)]
def wsX8_count : List Cond := .code yX8_count cX8_count 2 (some .int) :: ((wsX8_count_r1 ++ wsX8_count_r2) ++ wsX80)
def wsJ9_max_7cf53 : List Cond := .code yJ9_max_7cf53 cJ9_max_7cf53 2 (some .int) :: ([])
def wsJ9_min_7cf53 : List Cond := .code yJ9_min_7cf53 cJ9_min_7cf53 2 (some .int) :: ([])
def wsL_law_r1 : List Cond := [Cond.classLink RL 7 RX7, Cond.instantiable RX7 7, Cond.initialized RX7, Cond.classLink RL 10 RX8, Cond.instantiable RX8 13, Cond.initialized RX8, Cond.methodLink RL 9 yX7_init, Cond.instanceMethod yX7_init, Cond.code yX7_init cX7_init 1 none, Cond.methodLink RX7 1 objectInit, Cond.instanceMethod objectInit, Cond.code objectInit ⟨#[0xb1]⟩ 1 none, Cond.classLink RX7 7 RX6, Cond.instantiable RX6 10, Cond.initialized RX6, Cond.fieldLink RX7 10 "LeafTurner" "now" "LLeafTurner$State;", Cond.fieldLink RX7 16 "LeafTurner" "trial" "LLeafTurner$State;", Cond.fieldLink RX7 19 "LeafTurner" "snapshot" "LLeafTurner$State;", Cond.classLink RX7 22 RX2, Cond.instantiable RX2 2, Cond.initialized RX2, Cond.fieldLink RX7 25 "LeafTurner" "history" "LLeafTurner$History;", Cond.classLink RX7 29 RX1, Cond.instantiable RX1 2]
def wsL_law_r2 : List Cond := [Cond.initialized RX1, Cond.fieldLink RX7 32 "LeafTurner" "text" "LLeafTurner$BookText;", Cond.classLink RX7 36 RX4, Cond.instantiable RX4 4, Cond.initialized RX4, Cond.fieldLink RX7 39 "LeafTurner" "pageSet" "LLeafTurner$PageSet;", Cond.fieldLink RX7 43 "LeafTurner" "hasSnapshot" "Z", Cond.methodLink RX7 9 yX6_init, Cond.instanceMethod yX6_init, Cond.code yX6_init cX6_init 2 none, Cond.methodLink RX6 3 objectInit, Cond.classLink RX6 9 RX0, Cond.instantiable RX0 4, Cond.initialized RX0, Cond.fieldLink RX6 12 "LeafTurner$State" "book" "LLeafTurner$Book;", Cond.classLink RX6 18 RX5, Cond.instantiable RX5 5, Cond.initialized RX5, Cond.fieldLink RX6 21 "LeafTurner$State" "pictures" "LLeafTurner$Pictures;", Cond.classLink RX6 25 RX3, Cond.instantiable RX3 1, Cond.initialized RX3, Cond.fieldLink RX6 34 "LeafTurner$State" "settings" "LLeafTurner$Numbers;", Cond.fieldLink RX6 42 "LeafTurner$State" "suction" "I"]
def wsL_law_r3 : List Cond := [Cond.methodLink RX6 11 yX0_init, Cond.instanceMethod yX0_init, Cond.code yX0_init cX0_init 1 none, Cond.methodLink RX0 3 objectInit, Cond.classLink RX0 9 RX3, Cond.fieldLink RX0 14 "LeafTurner$Book" "weights" "LLeafTurner$Numbers;", Cond.fieldLink RX0 20 "LeafTurner$Book" "strengths" "LLeafTurner$Numbers;", Cond.fieldLink RX0 23 "LeafTurner$Book" "printed" "LLeafTurner$Numbers;", Cond.fieldLink RX0 26 "LeafTurner$Book" "leaves" "I", Cond.methodLink RX0 11 yX3_init, Cond.instanceMethod yX3_init, Cond.code yX3_init cX3_init 2 none, Cond.methodLink RX3 3 objectInit, Cond.methodLink RX3 9 Lib.Math.max.name, Cond.static Lib.Math.max.name, Cond.initialized "java/lang/Math", Cond.code Lib.Math.max.name Lib.Math.max.code 2 (some .int), Cond.arrayClass .int, Cond.fieldLink RX3 15 "LeafTurner$Numbers" "cells" "[I", Cond.methodLink RX6 20 yX5_init, Cond.instanceMethod yX5_init, Cond.code yX5_init cX5_init 1 none, Cond.methodLink RX5 3 objectInit, Cond.classLink RX5 9 RX3]
def wsL_law_r4 : List Cond := [Cond.fieldLink RX5 14 "LeafTurner$Pictures" "pages" "LLeafTurner$Numbers;", Cond.fieldLink RX5 20 "LeafTurner$Pictures" "numbers" "LLeafTurner$Numbers;", Cond.fieldLink RX5 23 "LeafTurner$Pictures" "gutters" "LLeafTurner$Numbers;", Cond.fieldLink RX5 26 "LeafTurner$Pictures" "pairs" "LLeafTurner$Numbers;", Cond.fieldLink RX5 29 "LeafTurner$Pictures" "size" "I", Cond.methodLink RX5 11 yX3_init, Cond.methodLink RX6 31 yX3_init, Cond.methodLink RX6 38 yX3_put, Cond.instanceMethod yX3_put, Cond.selects RX3 yX3_put yX3_put, Cond.code yX3_put cX3_put 3 none, Cond.methodLink RX3 21 yX3_has, Cond.instanceMethod yX3_has, Cond.selects RX3 yX3_has yX3_has, Cond.code yX3_has cX3_has 2 (some .boolean), Cond.methodLink RX7 24 yX2_init, Cond.instanceMethod yX2_init, Cond.code yX2_init cX2_init 2 none, Cond.methodLink RX2 3 objectInit, Cond.classLink RX2 9 RX6, Cond.fieldLink RX2 11 "LeafTurner$History" "states" "[LLeafTurner$State;", Cond.fieldLink RX2 18 "LeafTurner$History" "size" "I", Cond.methodLink RX2 17 yX6_init, Cond.methodLink RX7 31 yX1_init]
def wsL_law_r5 : List Cond := [Cond.instanceMethod yX1_init, Cond.code yX1_init cX1_init 1 none, Cond.methodLink RX1 3 objectInit, Cond.arrayClass .char, Cond.fieldLink RX1 9 "LeafTurner$BookText" "signs" "[C", Cond.fieldLink RX1 15 "LeafTurner$BookText" "length" "I", Cond.methodLink RX7 38 yX4_init, Cond.instanceMethod yX4_init, Cond.code yX4_init cX4_init 1 none, Cond.methodLink RX4 3 objectInit, Cond.classLink RX4 9 RX3, Cond.fieldLink RX4 14 "LeafTurner$PageSet" "guesses" "LLeafTurner$Numbers;", Cond.fieldLink RX4 20 "LeafTurner$PageSet" "chosen" "LLeafTurner$Numbers;", Cond.methodLink RX4 11 yX3_init, Cond.methodLink RL 12 yX8_init, Cond.instanceMethod yX8_init, Cond.code yX8_init cX8_init 1 none, Cond.methodLink RX8 1 objectInit, Cond.fieldLink RX8 7 "LeafTurnerModel" "now" "[I", Cond.fieldLink RX8 13 "LeafTurnerModel" "then" "[I", Cond.fieldLink RX8 16 "LeafTurnerModel" "past" "[I", Cond.fieldLink RX8 19 "LeafTurnerModel" "snapshot" "[I", Cond.fieldLink RX8 22 "LeafTurnerModel" "text" "[C", Cond.fieldLink RX8 26 "LeafTurnerModel" "guesses" "[I"]
def wsL_law_r6 : List Cond := [Cond.fieldLink RX8 29 "LeafTurnerModel" "chosen" "[I", Cond.fieldLink RX8 32 "LeafTurnerModel" "told" "[I", Cond.methodLink RL 13 yX7_takeBook, Cond.instanceMethod yX7_takeBook, Cond.selects RX7 yX7_takeBook yX7_takeBook, Cond.code yX7_takeBook cX7_takeBook 2 (some .int), Cond.methodLink RX7 51 yX1_readInto, Cond.instanceMethod yX1_readInto, Cond.selects RX1 yX1_readInto yX1_readInto, Cond.code yX1_readInto cX1_readInto 6 (some .int), Cond.methodLink RX1 24 yX1_isDigit, Cond.instanceMethod yX1_isDigit, Cond.selects RX1 yX1_isDigit yX1_isDigit, Cond.code yX1_isDigit cX1_isDigit 2 (some .boolean), Cond.methodLink RX1 50 yX1_has, Cond.instanceMethod yX1_has, Cond.selects RX1 yX1_has yX1_has, Cond.code yX1_has cX1_has 2 (some .boolean), Cond.methodLink RX1 28 yX1_digit, Cond.instanceMethod yX1_digit, Cond.selects RX1 yX1_digit yX1_digit, Cond.code yX1_digit cX1_digit 2 (some .int), Cond.methodLink RX1 32 yX1_is, Cond.instanceMethod yX1_is]
def wsL_law_r7 : List Cond := [Cond.selects RX1 yX1_is yX1_is, Cond.code yX1_is cX1_is 3 (some .boolean), Cond.methodLink RX1 36 yX0_addLeaf, Cond.instanceMethod yX0_addLeaf, Cond.selects RX0 yX0_addLeaf yX0_addLeaf, Cond.code yX0_addLeaf cX0_addLeaf 4 none, Cond.methodLink RX0 34 yX3_put, Cond.methodLink RX1 40 yX1_readMark, Cond.instanceMethod yX1_readMark, Cond.selects RX1 yX1_readMark yX1_readMark, Cond.code yX1_readMark cX1_readMark 3 (some .int), Cond.methodLink RX1 44 yX0_printNothingOnLast, Cond.instanceMethod yX0_printNothingOnLast, Cond.selects RX0 yX0_printNothingOnLast yX0_printNothingOnLast, Cond.code yX0_printNothingOnLast cX0_printNothingOnLast 1 none, Cond.methodLink RX0 30 yX0_pages, Cond.instanceMethod yX0_pages, Cond.selects RX0 yX0_pages yX0_pages, Cond.code yX0_pages cX0_pages 1 (some .int), Cond.methodLink RX1 47 yX0_printTooMuchOnLast, Cond.instanceMethod yX0_printTooMuchOnLast, Cond.selects RX0 yX0_printTooMuchOnLast yX0_printTooMuchOnLast, Cond.code yX0_printTooMuchOnLast cX0_printTooMuchOnLast 1 none, Cond.methodLink RX7 55 yX2_record]
def wsL_law_r8 : List Cond := [Cond.instanceMethod yX2_record, Cond.selects RX2 yX2_record yX2_record, Cond.code yX2_record cX2_record 2 none, Cond.methodLink RX2 22 yX2_dropOldest, Cond.instanceMethod yX2_dropOldest, Cond.selects RX2 yX2_dropOldest yX2_dropOldest, Cond.code yX2_dropOldest cX2_dropOldest 3 none, Cond.methodLink RX2 25 yX6_copyFrom, Cond.instanceMethod yX6_copyFrom, Cond.selects RX6 yX6_copyFrom yX6_copyFrom, Cond.code yX6_copyFrom cX6_copyFrom 2 none, Cond.fieldLink RX6 56 "LeafTurner$State" "left" "I", Cond.fieldLink RX6 59 "LeafTurner$State" "turnings" "I", Cond.fieldLink RX6 62 "LeafTurner$State" "turningsOfMore" "I", Cond.fieldLink RX6 65 "LeafTurner$State" "turningsOfNone" "I", Cond.fieldLink RX6 68 "LeafTurner$State" "singlesInRow" "I", Cond.fieldLink RX6 71 "LeafTurner$State" "pairs" "I", Cond.methodLink RX6 46 yX0_copyFrom, Cond.instanceMethod yX0_copyFrom, Cond.selects RX0 yX0_copyFrom yX0_copyFrom, Cond.code yX0_copyFrom cX0_copyFrom 2 none, Cond.methodLink RX0 44 yX3_copyFrom, Cond.instanceMethod yX3_copyFrom, Cond.selects RX3 yX3_copyFrom yX3_copyFrom]
def wsL_law_r9 : List Cond := [Cond.code yX3_copyFrom cX3_copyFrom 2 none, Cond.methodLink RX3 37 Lib.Math.min.name, Cond.static Lib.Math.min.name, Cond.code Lib.Math.min.name Lib.Math.min.code 2 (some .int), Cond.methodLink RX3 31 arraycopyName, Cond.native arraycopyName, Cond.static arraycopyName, Cond.initialized "java/lang/System", Cond.methodLink RX6 50 yX5_copyFrom, Cond.instanceMethod yX5_copyFrom, Cond.selects RX5 yX5_copyFrom yX5_copyFrom, Cond.code yX5_copyFrom cX5_copyFrom 2 none, Cond.methodLink RX5 52 yX3_copyFrom, Cond.methodLink RX6 53 yX3_copyFrom, Cond.methodLink RX7 59 yX6_clearForBook, Cond.instanceMethod yX6_clearForBook, Cond.selects RX6 yX6_clearForBook yX6_clearForBook, Cond.code yX6_clearForBook cX6_clearForBook 1 none, Cond.methodLink RX7 62 yX0_copyFrom, Cond.methodLink RL 17 yX8_takeBook, Cond.instanceMethod yX8_takeBook, Cond.selects RX8 yX8_takeBook yX8_takeBook, Cond.code yX8_takeBook cX8_takeBook 3 (some .int), Cond.fieldLink RX8 54 "LeafTurnerModel" "toldMany" "I"]
def wsL_law_r10 : List Cond := [Cond.methodLink RX8 43 yX8_fault, Cond.instanceMethod yX8_fault, Cond.selects RX8 yX8_fault yX8_fault, Cond.code yX8_fault cX8_fault 2 (some .int), Cond.fieldLink RX8 116 "LeafTurnerModel" "spot" "I", Cond.fieldLink RX8 113 "LeafTurnerModel" "length" "I", Cond.methodLink RX8 129 yX8_isLeafTold, Cond.instanceMethod yX8_isLeafTold, Cond.selects RX8 yX8_isLeafTold yX8_isLeafTold, Cond.code yX8_isLeafTold cX8_isLeafTold 1 (some .boolean), Cond.methodLink RX8 123 yX8_isDigit, Cond.instanceMethod yX8_isDigit, Cond.selects RX8 yX8_isDigit yX8_isDigit, Cond.code yX8_isDigit cX8_isDigit 2 (some .boolean), Cond.methodLink RX8 119 yX8_sees, Cond.instanceMethod yX8_sees, Cond.selects RX8 yX8_sees yX8_sees, Cond.code yX8_sees cX8_sees 3 (some .boolean), Cond.methodLink RX8 61 yX8_in, Cond.static yX8_in, Cond.code yX8_in cX8_in 3 (some .boolean), Cond.methodLink RX8 126 yX8_takesSign, Cond.instanceMethod yX8_takesSign, Cond.selects RX8 yX8_takesSign yX8_takesSign]
def wsL_law_r11 : List Cond := [Cond.code yX8_takesSign cX8_takesSign 3 (some .boolean), Cond.methodLink RX8 47 yX8_records, Cond.instanceMethod yX8_records, Cond.selects RX8 yX8_records yX8_records, Cond.code yX8_records cX8_records 3 none, Cond.fieldLink RX8 35 "LeafTurnerModel" "states" "I", Cond.methodLink RX8 39 yX8_lays, Cond.static yX8_lays, Cond.code yX8_lays cX8_lays 5 none, Cond.methodLink RX8 51 yX8_clears, Cond.instanceMethod yX8_clears, Cond.selects RX8 yX8_clears yX8_clears, Cond.code yX8_clears cX8_clears 2 none, Cond.methodLink RX8 57 yX8_adds, Cond.instanceMethod yX8_adds, Cond.selects RX8 yX8_adds yX8_adds, Cond.code yX8_adds cX8_adds 6 none, Cond.methodLink RL 18 yX7_layBook, Cond.instanceMethod yX7_layBook, Cond.selects RX7 yX7_layBook yX7_layBook, Cond.code yX7_layBook cX7_layBook 3 (some .int), Cond.methodLink RX7 72 yX0_layBySeed, Cond.instanceMethod yX0_layBySeed, Cond.selects RX0 yX0_layBySeed yX0_layBySeed]
def wsL_law_r12 : List Cond := [Cond.code yX0_layBySeed cX0_layBySeed 8 (some .int), Cond.methodLink RX0 38 yX0_addLeaf, Cond.methodLink RX0 41 yX0_printNothingOnLast, Cond.methodLink RL 22 yX8_layBook, Cond.instanceMethod yX8_layBook, Cond.selects RX8 yX8_layBook yX8_layBook, Cond.code yX8_layBook cX8_layBook 7 (some .int), Cond.methodLink RL 23 yX7_print, Cond.instanceMethod yX7_print, Cond.selects RX7 yX7_print yX7_print, Cond.code yX7_print cX7_print 4 (some .int), Cond.methodLink RX7 76 yX0_hasPage, Cond.instanceMethod yX0_hasPage, Cond.selects RX0 yX0_hasPage yX0_hasPage, Cond.code yX0_hasPage cX0_hasPage 2 (some .boolean), Cond.methodLink RX7 84 yX3_at, Cond.instanceMethod yX3_at, Cond.selects RX3 yX3_at yX3_at, Cond.code yX3_at cX3_at 2 (some .int), Cond.methodLink RX7 90 yX3_put, Cond.methodLink RL 26 yX8_print, Cond.instanceMethod yX8_print, Cond.selects RX8 yX8_print yX8_print, Cond.code yX8_print cX8_print 4 (some .int)]
def wsL_law_r13 : List Cond := [Cond.methodLink RX8 65 yX8_isPage, Cond.instanceMethod yX8_isPage, Cond.selects RX8 yX8_isPage yX8_isPage, Cond.code yX8_isPage cX8_isPage 2 (some .boolean), Cond.methodLink RL 27 yX7_turn, Cond.instanceMethod yX7_turn, Cond.selects RX7 yX7_turn yX7_turn, Cond.code yX7_turn cX7_turn 1 (some .int), Cond.methodLink RX7 94 yX6_leavesOnRight, Cond.instanceMethod yX6_leavesOnRight, Cond.selects RX6 yX6_leavesOnRight yX6_leavesOnRight, Cond.code yX6_leavesOnRight cX6_leavesOnRight 1 (some .int), Cond.methodLink RX7 98 yX6_turnOnce, Cond.instanceMethod yX6_turnOnce, Cond.selects RX6 yX6_turnOnce yX6_turnOnce, Cond.code yX6_turnOnce cX6_turnOnce 2 (some .int), Cond.methodLink RX6 94 yX6_liftedBy, Cond.instanceMethod yX6_liftedBy, Cond.selects RX6 yX6_liftedBy yX6_liftedBy, Cond.code yX6_liftedBy cX6_liftedBy 6 (some .int), Cond.methodLink RX6 87 yX3_at, Cond.methodLink RX6 97 yX6_learnFrom, Cond.instanceMethod yX6_learnFrom, Cond.selects RX6 yX6_learnFrom yX6_learnFrom]
def wsL_law_r14 : List Cond := [Cond.code yX6_learnFrom cX6_learnFrom 3 none, Cond.methodLink RX6 100 Lib.Math.min.name, Cond.methodLink RX6 106 Lib.Math.max.name, Cond.methodLink RL 30 yX8_turn, Cond.instanceMethod yX8_turn, Cond.selects RX8 yX8_turn yX8_turn, Cond.code yX8_turn cX8_turn 1 (some .int), Cond.methodLink RX8 77 yX8_isRight, Cond.instanceMethod yX8_isRight, Cond.selects RX8 yX8_isRight yX8_isRight, Cond.code yX8_isRight cX8_isRight 1 (some .boolean), Cond.methodLink RX8 81 yX8_turns, Cond.static yX8_turns, Cond.code yX8_turns cX8_turns 2 (some .int), Cond.methodLink RX8 69 yX8_wouldTurn, Cond.static yX8_wouldTurn, Cond.code yX8_wouldTurn cX8_wouldTurn 5 (some .int), Cond.methodLink RX8 73 yX8_learns, Cond.static yX8_learns, Cond.code yX8_learns cX8_learns 4 none, Cond.methodLink RL 31 yX7_turnBack, Cond.instanceMethod yX7_turnBack, Cond.selects RX7 yX7_turnBack yX7_turnBack, Cond.code yX7_turnBack cX7_turnBack 1 (some .int)]
def wsL_law_r15 : List Cond := [Cond.methodLink RL 34 yX8_turnBack, Cond.instanceMethod yX8_turnBack, Cond.selects RX8 yX8_turnBack yX8_turnBack, Cond.code yX8_turnBack cX8_turnBack 1 (some .int), Cond.methodLink RL 35 yX7_shoot, Cond.instanceMethod yX7_shoot, Cond.selects RX7 yX7_shoot yX7_shoot, Cond.code yX7_shoot cX7_shoot 1 (some .int), Cond.methodLink RX7 104 yX6_hasBook, Cond.instanceMethod yX6_hasBook, Cond.selects RX6 yX6_hasBook yX6_hasBook, Cond.code yX6_hasBook cX6_hasBook 1 (some .boolean), Cond.methodLink RX7 108 yX6_hasRoomForPair, Cond.instanceMethod yX6_hasRoomForPair, Cond.selects RX6 yX6_hasRoomForPair yX6_hasRoomForPair, Cond.code yX6_hasRoomForPair cX6_hasRoomForPair 1 (some .boolean), Cond.methodLink RX6 123 yX6_pagesOpen, Cond.instanceMethod yX6_pagesOpen, Cond.selects RX6 yX6_pagesOpen yX6_pagesOpen, Cond.code yX6_pagesOpen cX6_pagesOpen 1 (some .int), Cond.methodLink RX6 113 yX6_openOnLeft, Cond.instanceMethod yX6_openOnLeft, Cond.selects RX6 yX6_openOnLeft yX6_openOnLeft, Cond.code yX6_openOnLeft cX6_openOnLeft 1 (some .int)]
def wsL_law_r16 : List Cond := [Cond.static yX7_asNumber, Cond.code yX7_asNumber cX7_asNumber 1 (some .int), Cond.methodLink RX6 120 yX6_openOnRight, Cond.instanceMethod yX6_openOnRight, Cond.selects RX6 yX6_openOnRight yX6_openOnRight, Cond.code yX6_openOnRight cX6_openOnRight 1 (some .int), Cond.methodLink RX6 80 yX6_leavesOnRight, Cond.methodLink RX7 111 yX6_takePair, Cond.instanceMethod yX6_takePair, Cond.selects RX6 yX6_takePair yX6_takePair, Cond.code yX6_takePair cX6_takePair 2 (some .int), Cond.methodLink RX6 126 yX6_takePicture, Cond.instanceMethod yX6_takePicture, Cond.selects RX6 yX6_takePicture yX6_takePicture, Cond.code yX6_takePicture cX6_takePicture 4 none, Cond.methodLink RX6 129 yX6_gutterIsGood, Cond.instanceMethod yX6_gutterIsGood, Cond.selects RX6 yX6_gutterIsGood yX6_gutterIsGood, Cond.code yX6_gutterIsGood cX6_gutterIsGood 5 (some .boolean), Cond.static yX7_isRightPage, Cond.code yX7_isRightPage cX7_isRightPage 1 (some .boolean), Cond.methodLink RX6 135 yX5_add, Cond.instanceMethod yX5_add, Cond.selects RX5 yX5_add yX5_add]
def wsL_law_r17 : List Cond := [Cond.code yX5_add cX5_add 5 none, Cond.methodLink RX5 37 yX3_put, Cond.methodLink RL 38 yX8_shoot, Cond.instanceMethod yX8_shoot, Cond.selects RX8 yX8_shoot yX8_shoot, Cond.code yX8_shoot cX8_shoot 2 (some .int), Cond.methodLink RX8 96 yX8_shots, Cond.static yX8_shots, Cond.code yX8_shots cX8_shots 4 (some .int), Cond.methodLink RX8 85 yX8_openOn, Cond.static yX8_openOn, Cond.code yX8_openOn cX8_openOn 2 (some .int), Cond.methodLink RX8 88 yX8_takes, Cond.static yX8_takes, Cond.code yX8_takes cX8_takes 6 none, Cond.methodLink RX8 92 yX8_isGood, Cond.static yX8_isGood, Cond.code yX8_isGood cX8_isGood 2 (some .boolean), Cond.methodLink RL 39 yX7_scan, Cond.instanceMethod yX7_scan, Cond.selects RX7 yX7_scan yX7_scan, Cond.code yX7_scan cX7_scan 3 (some .int), Cond.methodLink RX7 114 yX6_copyFrom, Cond.methodLink RX7 116 yX6_takeAndTurn]
def wsL_law_r18 : List Cond := [Cond.instanceMethod yX6_takeAndTurn, Cond.selects RX6 yX6_takeAndTurn yX6_takeAndTurn, Cond.code yX6_takeAndTurn cX6_takeAndTurn 4 (some .int), Cond.methodLink RX6 139 yX6_hasRoomForPair, Cond.methodLink RX6 143 yX6_takePair, Cond.methodLink RX6 146 yX6_turnOnce, Cond.methodLink RL 43 yX8_scan, Cond.instanceMethod yX8_scan, Cond.selects RX8 yX8_scan yX8_scan, Cond.code yX8_scan cX8_scan 5 (some .int), Cond.methodLink RL 44 yX7_throwAway, Cond.instanceMethod yX7_throwAway, Cond.selects RX7 yX7_throwAway yX7_throwAway, Cond.code yX7_throwAway cX7_throwAway 2 (some .int), Cond.methodLink RX7 123 yX5_has, Cond.instanceMethod yX5_has, Cond.selects RX5 yX5_has yX5_has, Cond.code yX5_has cX5_has 2 (some .boolean), Cond.methodLink RX7 128 yX5_removeAt, Cond.instanceMethod yX5_removeAt, Cond.selects RX5 yX5_removeAt yX5_removeAt, Cond.code yX5_removeAt cX5_removeAt 2 none, Cond.methodLink RX5 45 yX5_has, Cond.methodLink RX5 49 yX3_removeAt]
def wsL_law_r19 : List Cond := [Cond.instanceMethod yX3_removeAt, Cond.selects RX3 yX3_removeAt yX3_removeAt, Cond.code yX3_removeAt cX3_removeAt 2 none, Cond.methodLink RL 47 yX8_throwAway, Cond.instanceMethod yX8_throwAway, Cond.selects RX8 yX8_throwAway yX8_throwAway, Cond.code yX8_throwAway cX8_throwAway 3 (some .int), Cond.methodLink RX8 99 yX8_isPicture, Cond.instanceMethod yX8_isPicture, Cond.selects RX8 yX8_isPicture yX8_isPicture, Cond.code yX8_isPicture cX8_isPicture 2 (some .boolean), Cond.methodLink RL 48 yX7_setSuction, Cond.instanceMethod yX7_setSuction, Cond.selects RX7 yX7_setSuction yX7_setSuction, Cond.code yX7_setSuction cX7_setSuction 3 (some .int), Cond.methodLink RX7 135 yX7_isSuction, Cond.static yX7_isSuction, Cond.code yX7_isSuction cX7_isSuction 1 (some .boolean), Cond.methodLink RL 51 yX8_setSuction, Cond.instanceMethod yX8_setSuction, Cond.selects RX8 yX8_setSuction yX8_setSuction, Cond.code yX8_setSuction cX8_setSuction 2 (some .int), Cond.methodLink RX8 102 yX8_becomes, Cond.instanceMethod yX8_becomes]
def wsL_law_r20 : List Cond := [Cond.selects RX8 yX8_becomes yX8_becomes, Cond.code yX8_becomes cX8_becomes 4 (some .int), Cond.methodLink RL 52 yX7_set, Cond.instanceMethod yX7_set, Cond.selects RX7 yX7_set yX7_set, Cond.code yX7_set cX7_set 4 (some .int), Cond.fieldLink RX7 141 "LeafTurner" "SETTING_AT_MOST" "[I", Cond.methodLink RL 55 yX8_set, Cond.instanceMethod yX8_set, Cond.selects RX8 yX8_set yX8_set, Cond.code yX8_set cX8_set 3 (some .int), Cond.methodLink RL 56 yX7_type, Cond.instanceMethod yX7_type, Cond.selects RX7 yX7_type yX7_type, Cond.code yX7_type cX7_type 2 (some .int), Cond.methodLink RX7 151 yX1_add, Cond.instanceMethod yX1_add, Cond.selects RX1 yX1_add yX1_add, Cond.code yX1_add cX1_add 2 none, Cond.methodLink RL 60 yX8_type, Cond.instanceMethod yX8_type, Cond.selects RX8 yX8_type yX8_type, Cond.code yX8_type cX8_type 2 (some .int), Cond.methodLink RL 61 yX7_clearText]
def wsL_law_r21 : List Cond := [Cond.instanceMethod yX7_clearText, Cond.selects RX7 yX7_clearText yX7_clearText, Cond.code yX7_clearText cX7_clearText 2 (some .int), Cond.methodLink RL 64 yX8_clearText, Cond.instanceMethod yX8_clearText, Cond.selects RX8 yX8_clearText yX8_clearText, Cond.code yX8_clearText cX8_clearText 2 (some .int), Cond.methodLink RL 65 yX7_undo, Cond.instanceMethod yX7_undo, Cond.selects RX7 yX7_undo yX7_undo, Cond.code yX7_undo cX7_undo 1 (some .int), Cond.methodLink RX7 156 yX2_takeLatestInto, Cond.instanceMethod yX2_takeLatestInto, Cond.selects RX2 yX2_takeLatestInto yX2_takeLatestInto, Cond.code yX2_takeLatestInto cX2_takeLatestInto 3 none, Cond.methodLink RL 68 yX8_undo, Cond.instanceMethod yX8_undo, Cond.selects RX8 yX8_undo yX8_undo, Cond.code yX8_undo cX8_undo 1 (some .int), Cond.methodLink RL 69 yX7_keep, Cond.instanceMethod yX7_keep, Cond.selects RX7 yX7_keep yX7_keep, Cond.code yX7_keep cX7_keep 1 (some .int), Cond.methodLink RL 72 yX8_keep]
def wsL_law_r22 : List Cond := [Cond.instanceMethod yX8_keep, Cond.selects RX8 yX8_keep yX8_keep, Cond.code yX8_keep cX8_keep 1 (some .int), Cond.fieldLink RX8 132 "LeafTurnerModel" "isKept" "Z", Cond.methodLink RL 73 yX7_restore, Cond.instanceMethod yX7_restore, Cond.selects RX7 yX7_restore yX7_restore, Cond.code yX7_restore cX7_restore 1 (some .int), Cond.methodLink RL 76 yX8_restore, Cond.instanceMethod yX8_restore, Cond.selects RX8 yX8_restore yX8_restore, Cond.code yX8_restore cX8_restore 1 (some .int), Cond.methodLink RL 77 yX7_leaf, Cond.instanceMethod yX7_leaf, Cond.selects RX7 yX7_leaf yX7_leaf, Cond.code yX7_leaf cX7_leaf 3 (some .int), Cond.methodLink RX7 165 yX7_asNumber, Cond.methodLink RL 80 yX8_leaf, Cond.instanceMethod yX8_leaf, Cond.selects RX8 yX8_leaf yX8_leaf, Cond.code yX8_leaf cX8_leaf 3 (some .int), Cond.methodLink RL 81 yX7_page, Cond.instanceMethod yX7_page, Cond.selects RX7 yX7_page yX7_page]
def wsL_law_r23 : List Cond := [Cond.code yX7_page cX7_page 3 (some .int), Cond.methodLink RX7 169 yX4_makeFor, Cond.instanceMethod yX4_makeFor, Cond.selects RX4 yX4_makeFor yX4_makeFor, Cond.code yX4_makeFor cX4_makeFor 5 none, Cond.fieldLink RX4 35 "LeafTurner$PageSet" "pictures" "I", Cond.fieldLink RX4 47 "LeafTurner$PageSet" "pages" "I", Cond.methodLink RX4 41 yX0_pages, Cond.methodLink RX4 49 yX3_putAll, Cond.instanceMethod yX3_putAll, Cond.selects RX3 yX3_putAll yX3_putAll, Cond.code yX3_putAll cX3_putAll 2 none, Cond.methodLink RX3 25 yJ7_fill_53178, Cond.static yJ7_fill_53178, Cond.initialized RJ7, Cond.code yJ7_fill_53178 cJ7_fill_53178 4 none, Cond.methodLink RX4 52 yX4_guessOf, Cond.instanceMethod yX4_guessOf, Cond.selects RX4 yX4_guessOf yX4_guessOf, Cond.code yX4_guessOf cX4_guessOf 6 (some .int), Cond.methodLink RX4 67 yX3_at, Cond.methodLink RX4 71 yX5_isGood, Cond.instanceMethod yX5_isGood, Cond.selects RX5 yX5_isGood yX5_isGood]
def wsL_law_r24 : List Cond := [Cond.code yX5_isGood cX5_isGood 2 (some .boolean), Cond.methodLink RX5 33 yX3_at, Cond.methodLink RX4 78 yX0_hasPage, Cond.methodLink RX4 56 yX3_put, Cond.methodLink RX4 60 yX4_choose, Cond.instanceMethod yX4_choose, Cond.selects RX4 yX4_choose yX4_choose, Cond.code yX4_choose cX4_choose 5 none, Cond.methodLink RX7 175 yX5_howManyShow, Cond.instanceMethod yX5_howManyShow, Cond.selects RX5 yX5_howManyShow yX5_howManyShow, Cond.code yX5_howManyShow cX5_howManyShow 4 (some .int), Cond.methodLink RX7 178 yX4_isDoubtful, Cond.instanceMethod yX4_isDoubtful, Cond.selects RX4 yX4_isDoubtful yX4_isDoubtful, Cond.code yX4_isDoubtful cX4_isDoubtful 4 (some .boolean), Cond.methodLink RX7 182 yX6_gutterIsGood, Cond.methodLink RL 84 yX8_page, Cond.instanceMethod yX8_page, Cond.selects RX8 yX8_page yX8_page, Cond.code yX8_page cX8_page 3 (some .int), Cond.methodLink RX8 136 yX8_guessesAll, Cond.instanceMethod yX8_guessesAll, Cond.selects RX8 yX8_guessesAll yX8_guessesAll]
def wsL_law_r25 : List Cond := [Cond.code yX8_guessesAll cX8_guessesAll 5 none, Cond.methodLink RX8 109 yX8_guess, Cond.instanceMethod yX8_guess, Cond.selects RX8 yX8_guess yX8_guess, Cond.code yX8_guess cX8_guess 5 (some .int), Cond.methodLink RX8 106 yX8_ofPicture, Cond.instanceMethod yX8_ofPicture, Cond.selects RX8 yX8_ofPicture yX8_ofPicture, Cond.code yX8_ofPicture cX8_ofPicture 3 (some .int), Cond.methodLink RX8 139 yX8_shownBy, Cond.instanceMethod yX8_shownBy, Cond.selects RX8 yX8_shownBy yX8_shownBy, Cond.code yX8_shownBy cX8_shownBy 4 (some .int), Cond.methodLink RX8 142 yX8_isDoubtful, Cond.instanceMethod yX8_isDoubtful, Cond.selects RX8 yX8_isDoubtful yX8_isDoubtful, Cond.code yX8_isDoubtful cX8_isDoubtful 2 (some .boolean), Cond.methodLink RL 85 yX7_picture, Cond.instanceMethod yX7_picture, Cond.selects RX7 yX7_picture yX7_picture, Cond.code yX7_picture cX7_picture 4 (some .int), Cond.methodLink RX7 191 yX5_isGood, Cond.methodLink RX7 197 yX4_isSpare, Cond.instanceMethod yX4_isSpare]
def wsL_law_r26 : List Cond := [Cond.selects RX4 yX4_isSpare yX4_isSpare, Cond.code yX4_isSpare cX4_isSpare 3 (some .boolean), Cond.methodLink RX7 200 yX7_isRightPage, Cond.methodLink RL 88 yX8_picture, Cond.instanceMethod yX8_picture, Cond.selects RX8 yX8_picture yX8_picture, Cond.code yX8_picture cX8_picture 3 (some .int), Cond.methodLink RX8 145 yX8_isSpare, Cond.instanceMethod yX8_isSpare, Cond.selects RX8 yX8_isSpare yX8_isSpare, Cond.code yX8_isSpare cX8_isSpare 2 (some .boolean), Cond.methodLink RL 89 yX7_open, Cond.instanceMethod yX7_open, Cond.selects RX7 yX7_open yX7_open, Cond.code yX7_open cX7_open 2 (some .int), Cond.methodLink RX7 206 yX6_openOnLeft, Cond.methodLink RX7 209 yX6_openOnRight, Cond.methodLink RL 92 yX8_open, Cond.instanceMethod yX8_open, Cond.selects RX8 yX8_open yX8_open, Cond.code yX8_open cX8_open 2 (some .int), Cond.methodLink RL 93 yX7_would, Cond.instanceMethod yX7_would, Cond.selects RX7 yX7_would yX7_would]
def wsL_law_r27 : List Cond := [Cond.code yX7_would cX7_would 2 (some .int), Cond.methodLink RX7 212 yX6_liftedBy, Cond.methodLink RL 96 yX8_would, Cond.instanceMethod yX8_would, Cond.selects RX8 yX8_would yX8_would, Cond.code yX8_would cX8_would 2 (some .int), Cond.methodLink RL 97 yX7_best, Cond.instanceMethod yX7_best, Cond.selects RX7 yX7_best yX7_best, Cond.code yX7_best cX7_best 2 (some .int), Cond.methodLink RL 100 yX8_best, Cond.instanceMethod yX8_best, Cond.selects RX8 yX8_best yX8_best, Cond.code yX8_best cX8_best 2 (some .int), Cond.methodLink RL 101 yX7_lacking, Cond.instanceMethod yX7_lacking, Cond.selects RX7 yX7_lacking yX7_lacking, Cond.code yX7_lacking cX7_lacking 2 (some .int), Cond.methodLink RX7 215 yX4_lackingAt, Cond.instanceMethod yX4_lackingAt, Cond.selects RX4 yX4_lackingAt yX4_lackingAt, Cond.code yX4_lackingAt cX4_lackingAt 4 (some .int), Cond.methodLink RL 104 yX8_lacking, Cond.instanceMethod yX8_lacking]
def wsL_law_r28 : List Cond := [Cond.selects RX8 yX8_lacking yX8_lacking, Cond.code yX8_lacking cX8_lacking 4 (some .int), Cond.methodLink RL 105 yX7_count, Cond.instanceMethod yX7_count, Cond.selects RX7 yX7_count yX7_count, Cond.code yX7_count cX7_count 2 (some .int), Cond.methodLink RX7 218 yX7_countInSet, Cond.instanceMethod yX7_countInSet, Cond.selects RX7 yX7_countInSet yX7_countInSet, Cond.code yX7_countInSet cX7_countInSet 2 (some .int), Cond.methodLink RX7 232 yX4_howManyLack, Cond.instanceMethod yX4_howManyLack, Cond.selects RX4 yX4_howManyLack yX4_howManyLack, Cond.code yX4_howManyLack cX4_howManyLack 3 (some .int), Cond.methodLink RX7 235 yX4_howManyDoubtful, Cond.instanceMethod yX4_howManyDoubtful, Cond.selects RX4 yX4_howManyDoubtful yX4_howManyDoubtful, Cond.code yX4_howManyDoubtful cX4_howManyDoubtful 4 (some .int), Cond.methodLink RX4 83 yX4_isDoubtful, Cond.methodLink RX7 239 yX4_howManySpare, Cond.instanceMethod yX4_howManySpare, Cond.selects RX4 yX4_howManySpare yX4_howManySpare, Cond.code yX4_howManySpare cX4_howManySpare 3 (some .int), Cond.methodLink RX4 87 yX4_isSpare]
def wsL_law_r29 : List Cond := [Cond.methodLink RX7 242 yX4_howManyNotGuessed, Cond.instanceMethod yX4_howManyNotGuessed, Cond.selects RX4 yX4_howManyNotGuessed yX4_howManyNotGuessed, Cond.code yX4_howManyNotGuessed cX4_howManyNotGuessed 3 (some .int), Cond.methodLink RL 108 yX8_count, Cond.instanceMethod yX8_count, Cond.selects RX8 yX8_count yX8_count, Cond.code yX8_count cX8_count 2 (some .int), Cond.methodLink RX8 148 yX8_pages, Cond.instanceMethod yX8_pages, Cond.selects RX8 yX8_pages yX8_pages, Cond.code yX8_pages cX8_pages 5 (some .int), Cond.methodLink RX8 151 yX8_pictures, Cond.instanceMethod yX8_pictures, Cond.selects RX8 yX8_pictures yX8_pictures, Cond.code yX8_pictures cX8_pictures 5 (some .int)]
def wsL_law : List Cond := (wsL_law_r1 ++ (wsL_law_r2 ++ (wsL_law_r3 ++ (wsL_law_r4 ++ (wsL_law_r5 ++ (wsL_law_r6 ++ (wsL_law_r7 ++ (wsL_law_r8 ++ (wsL_law_r9 ++ (wsL_law_r10 ++ (wsL_law_r11 ++ (wsL_law_r12 ++ (wsL_law_r13 ++ (wsL_law_r14 ++ (wsL_law_r15 ++ (wsL_law_r16 ++ (wsL_law_r17 ++ (wsL_law_r18 ++ (wsL_law_r19 ++ (wsL_law_r20 ++ (wsL_law_r21 ++ (wsL_law_r22 ++ (wsL_law_r23 ++ (wsL_law_r24 ++ (wsL_law_r25 ++ (wsL_law_r26 ++ (wsL_law_r27 ++ (wsL_law_r28 ++ wsL_law_r29)))))))))))))))))))))))))))) ++ wsX70 ++ wsX80 ++ wsX60 ++ wsX20 ++ wsX10 ++ wsX40 ++ wsX00 ++ wsX50 ++ wsX30 ++ ([] : List Cond)
theorem lt_inApp {a b : List Cond} (ha : ∀ w ∈ a, w ∈ lw_tbl) (hb : ∀ w ∈ b, w ∈ lw_tbl) : ∀ w ∈ a ++ b, w ∈ lw_tbl := fun w h => (List.mem_append.mp h).elim (ha w) (hb w)
set_option maxRecDepth 20000 in
theorem wsL_law_r1_in : ∀ w ∈ wsL_law_r1, w ∈ lw_tbl := fun w h => (goodIn_p wsL_law_r1 [48, 51] (by decide +kernel) (by decide +kernel) w h).1
set_option maxRecDepth 20000 in
theorem wsL_law_r2_in : ∀ w ∈ wsL_law_r2, w ∈ lw_tbl := fun w h => (goodIn_p wsL_law_r2 [56] (by decide +kernel) (by decide +kernel) w h).1
set_option maxRecDepth 20000 in
theorem wsL_law_r3_in : ∀ w ∈ wsL_law_r3, w ∈ lw_tbl := fun w h => (goodIn_p wsL_law_r3 [62, 68, 72, 104] (by decide +kernel) (by decide +kernel) w h).1
set_option maxRecDepth 20000 in
theorem wsL_law_r4_in : ∀ w ∈ wsL_law_r4, w ∈ lw_tbl := fun w h => (goodIn_p wsL_law_r4 [139, 143, 191] (by decide +kernel) (by decide +kernel) w h).1
set_option maxRecDepth 20000 in
theorem wsL_law_r5_in : ∀ w ∈ wsL_law_r5, w ∈ lw_tbl := fun w h => (goodIn_p wsL_law_r5 [208, 223, 624] (by decide +kernel) (by decide +kernel) w h).1
set_option maxRecDepth 20000 in
theorem wsL_law_r6_in : ∀ w ∈ wsL_law_r6, w ∈ lw_tbl := fun w h => (goodIn_p wsL_law_r6 [267, 271, 275, 279, 283] (by decide +kernel) (by decide +kernel) w h).1
set_option maxRecDepth 20000 in
theorem wsL_law_r7_in : ∀ w ∈ wsL_law_r7, w ∈ lw_tbl := fun w h => (goodIn_p wsL_law_r7 [287, 291, 296, 300, 304, 308] (by decide +kernel) (by decide +kernel) w h).1
set_option maxRecDepth 20000 in
theorem wsL_law_r8_in : ∀ w ∈ wsL_law_r8, w ∈ lw_tbl := fun w h => (goodIn_p wsL_law_r8 [312, 316, 320, 324] (by decide +kernel) (by decide +kernel) w h).1
set_option maxRecDepth 20000 in
theorem wsL_law_r9_in : ∀ w ∈ wsL_law_r9, w ∈ lw_tbl := fun w h => (goodIn_p wsL_law_r9 [328, 331, 338, 344, 669] (by decide +kernel) (by decide +kernel) w h).1
set_option maxRecDepth 20000 in
theorem wsL_law_r10_in : ∀ w ∈ wsL_law_r10, w ∈ lw_tbl := fun w h => (goodIn_p wsL_law_r10 [673, 677, 681, 685, 688] (by decide +kernel) (by decide +kernel) w h).1
set_option maxRecDepth 20000 in
theorem wsL_law_r11_in : ∀ w ∈ wsL_law_r11, w ∈ lw_tbl := fun w h => (goodIn_p wsL_law_r11 [692, 696, 699, 703, 707, 349] (by decide +kernel) (by decide +kernel) w h).1
set_option maxRecDepth 20000 in
theorem wsL_law_r12_in : ∀ w ∈ wsL_law_r12, w ∈ lw_tbl := fun w h => (goodIn_p wsL_law_r12 [353, 711, 359, 363, 367, 715] (by decide +kernel) (by decide +kernel) w h).1
set_option maxRecDepth 20000 in
theorem wsL_law_r13_in : ∀ w ∈ wsL_law_r13, w ∈ lw_tbl := fun w h => (goodIn_p wsL_law_r13 [719, 372, 376, 380, 384] (by decide +kernel) (by decide +kernel) w h).1
set_option maxRecDepth 20000 in
theorem wsL_law_r14_in : ∀ w ∈ wsL_law_r14, w ∈ lw_tbl := fun w h => (goodIn_p wsL_law_r14 [389, 723, 727, 730, 733, 736, 395] (by decide +kernel) (by decide +kernel) w h).1
set_option maxRecDepth 20000 in
theorem wsL_law_r15_in : ∀ w ∈ wsL_law_r15, w ∈ lw_tbl := fun w h => (goodIn_p wsL_law_r15 [740, 399, 403, 407, 411, 415] (by decide +kernel) (by decide +kernel) w h).1
set_option maxRecDepth 20000 in
theorem wsL_law_r16_in : ∀ w ∈ wsL_law_r16, w ∈ lw_tbl := fun w h => (goodIn_p wsL_law_r16 [418, 422, 427, 431, 435, 438] (by decide +kernel) (by decide +kernel) w h).1
set_option maxRecDepth 20000 in
theorem wsL_law_r17_in : ∀ w ∈ wsL_law_r17, w ∈ lw_tbl := fun w h => (goodIn_p wsL_law_r17 [442, 744, 747, 750, 753, 756, 448] (by decide +kernel) (by decide +kernel) w h).1
set_option maxRecDepth 20000 in
theorem wsL_law_r18_in : ∀ w ∈ wsL_law_r18, w ∈ lw_tbl := fun w h => (goodIn_p wsL_law_r18 [453, 760, 460, 464, 468] (by decide +kernel) (by decide +kernel) w h).1
set_option maxRecDepth 20000 in
theorem wsL_law_r19_in : ∀ w ∈ wsL_law_r19, w ∈ lw_tbl := fun w h => (goodIn_p wsL_law_r19 [473, 764, 768, 477, 480, 772] (by decide +kernel) (by decide +kernel) w h).1
set_option maxRecDepth 20000 in
theorem wsL_law_r20_in : ∀ w ∈ wsL_law_r20, w ∈ lw_tbl := fun w h => (goodIn_p wsL_law_r20 [776, 484, 780, 490, 494, 784] (by decide +kernel) (by decide +kernel) w h).1
set_option maxRecDepth 20000 in
theorem wsL_law_r21_in : ∀ w ∈ wsL_law_r21, w ∈ lw_tbl := fun w h => (goodIn_p wsL_law_r21 [498, 788, 502, 506, 792, 510] (by decide +kernel) (by decide +kernel) w h).1
set_option maxRecDepth 20000 in
theorem wsL_law_r22_in : ∀ w ∈ wsL_law_r22, w ∈ lw_tbl := fun w h => (goodIn_p wsL_law_r22 [796, 514, 800, 518, 804] (by decide +kernel) (by decide +kernel) w h).1
set_option maxRecDepth 20000 in
theorem wsL_law_r23_in : ∀ w ∈ wsL_law_r23, w ∈ lw_tbl := fun w h => (goodIn_p wsL_law_r23 [523, 527, 532, 535, 539] (by decide +kernel) (by decide +kernel) w h).1
set_option maxRecDepth 20000 in
theorem wsL_law_r24_in : ∀ w ∈ wsL_law_r24, w ∈ lw_tbl := fun w h => (goodIn_p wsL_law_r24 [544, 551, 555, 559, 808] (by decide +kernel) (by decide +kernel) w h).1
set_option maxRecDepth 20000 in
theorem wsL_law_r25_in : ∀ w ∈ wsL_law_r25, w ∈ lw_tbl := fun w h => (goodIn_p wsL_law_r25 [812, 816, 820, 824, 828, 564] (by decide +kernel) (by decide +kernel) w h).1
set_option maxRecDepth 20000 in
theorem wsL_law_r26_in : ∀ w ∈ wsL_law_r26, w ∈ lw_tbl := fun w h => (goodIn_p wsL_law_r26 [569, 832, 836, 574, 840] (by decide +kernel) (by decide +kernel) w h).1
set_option maxRecDepth 20000 in
theorem wsL_law_r27_in : ∀ w ∈ wsL_law_r27, w ∈ lw_tbl := fun w h => (goodIn_p wsL_law_r27 [580, 844, 585, 848, 589, 593] (by decide +kernel) (by decide +kernel) w h).1
set_option maxRecDepth 20000 in
theorem wsL_law_r28_in : ∀ w ∈ wsL_law_r28, w ∈ lw_tbl := fun w h => (goodIn_p wsL_law_r28 [852, 597, 601, 605, 609, 614] (by decide +kernel) (by decide +kernel) w h).1
set_option maxRecDepth 20000 in
theorem wsL_law_r29_in : ∀ w ∈ wsL_law_r29, w ∈ lw_tbl := fun w h => (goodIn_p wsL_law_r29 [619, 856, 860, 864] (by decide +kernel) (by decide +kernel) w h).1
theorem wsX70_in : ∀ w ∈ wsX70, w ∈ lw_tbl := by decide +kernel
theorem wsX80_in : ∀ w ∈ wsX80, w ∈ lw_tbl := by decide +kernel
theorem wsX60_in : ∀ w ∈ wsX60, w ∈ lw_tbl := by decide +kernel
theorem wsX20_in : ∀ w ∈ wsX20, w ∈ lw_tbl := by decide +kernel
theorem wsX10_in : ∀ w ∈ wsX10, w ∈ lw_tbl := by decide +kernel
theorem wsX40_in : ∀ w ∈ wsX40, w ∈ lw_tbl := by decide +kernel
theorem wsX00_in : ∀ w ∈ wsX00, w ∈ lw_tbl := by decide +kernel
theorem wsX50_in : ∀ w ∈ wsX50, w ∈ lw_tbl := by decide +kernel
theorem wsX30_in : ∀ w ∈ wsX30, w ∈ lw_tbl := by decide +kernel
theorem wsL_law_in : ∀ w ∈ wsL_law, w ∈ lw_tbl := (lt_inApp (lt_inApp (lt_inApp (lt_inApp (lt_inApp (lt_inApp (lt_inApp (lt_inApp (lt_inApp (lt_inApp (lt_inApp wsL_law_r1_in (lt_inApp wsL_law_r2_in (lt_inApp wsL_law_r3_in (lt_inApp wsL_law_r4_in (lt_inApp wsL_law_r5_in (lt_inApp wsL_law_r6_in (lt_inApp wsL_law_r7_in (lt_inApp wsL_law_r8_in (lt_inApp wsL_law_r9_in (lt_inApp wsL_law_r10_in (lt_inApp wsL_law_r11_in (lt_inApp wsL_law_r12_in (lt_inApp wsL_law_r13_in (lt_inApp wsL_law_r14_in (lt_inApp wsL_law_r15_in (lt_inApp wsL_law_r16_in (lt_inApp wsL_law_r17_in (lt_inApp wsL_law_r18_in (lt_inApp wsL_law_r19_in (lt_inApp wsL_law_r20_in (lt_inApp wsL_law_r21_in (lt_inApp wsL_law_r22_in (lt_inApp wsL_law_r23_in (lt_inApp wsL_law_r24_in (lt_inApp wsL_law_r25_in (lt_inApp wsL_law_r26_in (lt_inApp wsL_law_r27_in (lt_inApp wsL_law_r28_in wsL_law_r29_in)))))))))))))))))))))))))))) wsX70_in) wsX80_in) wsX60_in) wsX20_in) wsX10_in) wsX40_in) wsX00_in) wsX50_in) wsX30_in) (fun _ h => absurd h List.not_mem_nil))
theorem inlX0 : ∀ w ∈ wsX00, w ∈ wsL_law := fun _ h => List.mem_append_left _ (List.mem_append_left _ (List.mem_append_left _ (List.mem_append_right _ h)))
theorem inX0 : ∀ w ∈ wsX00, w ∈ lw_tbl := fun w h => wsL_law_in w (inlX0 w h)
theorem inlX1 : ∀ w ∈ wsX10, w ∈ wsL_law := fun _ h => List.mem_append_left _ (List.mem_append_left _ (List.mem_append_left _ (List.mem_append_left _ (List.mem_append_left _ (List.mem_append_right _ h)))))
theorem inX1 : ∀ w ∈ wsX10, w ∈ lw_tbl := fun w h => wsL_law_in w (inlX1 w h)
theorem inlX2 : ∀ w ∈ wsX20, w ∈ wsL_law := fun _ h => List.mem_append_left _ (List.mem_append_left _ (List.mem_append_left _ (List.mem_append_left _ (List.mem_append_left _ (List.mem_append_left _ (List.mem_append_right _ h))))))
theorem inX2 : ∀ w ∈ wsX20, w ∈ lw_tbl := fun w h => wsL_law_in w (inlX2 w h)
theorem inlX3 : ∀ w ∈ wsX30, w ∈ wsL_law := fun _ h => List.mem_append_left _ (List.mem_append_right _ h)
theorem inX3 : ∀ w ∈ wsX30, w ∈ lw_tbl := fun w h => wsL_law_in w (inlX3 w h)
theorem inlX4 : ∀ w ∈ wsX40, w ∈ wsL_law := fun _ h => List.mem_append_left _ (List.mem_append_left _ (List.mem_append_left _ (List.mem_append_left _ (List.mem_append_right _ h))))
theorem inX4 : ∀ w ∈ wsX40, w ∈ lw_tbl := fun w h => wsL_law_in w (inlX4 w h)
theorem inlX5 : ∀ w ∈ wsX50, w ∈ wsL_law := fun _ h => List.mem_append_left _ (List.mem_append_left _ (List.mem_append_right _ h))
theorem inX5 : ∀ w ∈ wsX50, w ∈ lw_tbl := fun w h => wsL_law_in w (inlX5 w h)
theorem inlX6 : ∀ w ∈ wsX60, w ∈ wsL_law := fun _ h => List.mem_append_left _ (List.mem_append_left _ (List.mem_append_left _ (List.mem_append_left _ (List.mem_append_left _ (List.mem_append_left _ (List.mem_append_left _ (List.mem_append_right _ h)))))))
theorem inX6 : ∀ w ∈ wsX60, w ∈ lw_tbl := fun w h => wsL_law_in w (inlX6 w h)
theorem inlX7 : ∀ w ∈ wsX70, w ∈ wsL_law := fun _ h => List.mem_append_left _ (List.mem_append_left _ (List.mem_append_left _ (List.mem_append_left _ (List.mem_append_left _ (List.mem_append_left _ (List.mem_append_left _ (List.mem_append_left _ (List.mem_append_left _ (List.mem_append_right _ h)))))))))
theorem inX7 : ∀ w ∈ wsX70, w ∈ lw_tbl := fun w h => wsL_law_in w (inlX7 w h)
theorem inlX8 : ∀ w ∈ wsX80, w ∈ wsL_law := fun _ h => List.mem_append_left _ (List.mem_append_left _ (List.mem_append_left _ (List.mem_append_left _ (List.mem_append_left _ (List.mem_append_left _ (List.mem_append_left _ (List.mem_append_left _ (List.mem_append_right _ h))))))))
theorem inX8 : ∀ w ∈ wsX80, w ∈ lw_tbl := fun w h => wsL_law_in w (inlX8 w h)
theorem inJ9 : ∀ w ∈ wsJ90, w ∈ lw_tbl := by decide +kernel
theorem inJ10 : ∀ w ∈ wsJ100, w ∈ lw_tbl := by decide +kernel
theorem inJ7 : ∀ w ∈ wsJ70, w ∈ lw_tbl := by decide +kernel
end
section
set_option maxRecDepth 20000 in
theorem ggX0_init_X3_init : GoodIn wsX0_init wsX3_init := goodIn_r _ [13, 14, 2, 3, 15, 16, 17, 18, 19, 20, 21] (by decide +kernel) (by decide +kernel)
set_option maxRecDepth 20000 in
theorem gX0_init_X3_init : GoodIn wsX0_init (wsX3_init) := ggX0_init_X3_init
theorem dX0_init_0 : decode cX0_init 0 = .ok (.aload_n 0, 1) := by decide +kernel
theorem dX0_init_1 : decode cX0_init 1 = .ok (.invokespecial 3, 3) := by decide +kernel
theorem dX0_init_4 : decode cX0_init 4 = .ok (.aload_n 0, 1) := by decide +kernel
theorem dX0_init_5 : decode cX0_init 5 = .ok (.new 9, 3) := by decide +kernel
theorem dX0_init_8 : decode cX0_init 8 = .ok (.dup, 1) := by decide +kernel
theorem dX0_init_9 : decode cX0_init 9 = .ok (.bipush 30, 2) := by decide +kernel
theorem dX0_init_11 : decode cX0_init 11 = .ok (.invokespecial 11, 3) := by decide +kernel
theorem dX0_init_14 : decode cX0_init 14 = .ok (.putfield 14, 3) := by decide +kernel
theorem dX0_init_17 : decode cX0_init 17 = .ok (.aload_n 0, 1) := by decide +kernel
theorem dX0_init_18 : decode cX0_init 18 = .ok (.new 9, 3) := by decide +kernel
theorem dX0_init_21 : decode cX0_init 21 = .ok (.dup, 1) := by decide +kernel
theorem dX0_init_22 : decode cX0_init 22 = .ok (.bipush 30, 2) := by decide +kernel
theorem dX0_init_24 : decode cX0_init 24 = .ok (.invokespecial 11, 3) := by decide +kernel
theorem dX0_init_27 : decode cX0_init 27 = .ok (.putfield 20, 3) := by decide +kernel
theorem dX0_init_30 : decode cX0_init 30 = .ok (.aload_n 0, 1) := by decide +kernel
theorem dX0_init_31 : decode cX0_init 31 = .ok (.new 9, 3) := by decide +kernel
theorem dX0_init_34 : decode cX0_init 34 = .ok (.dup, 1) := by decide +kernel
theorem dX0_init_35 : decode cX0_init 35 = .ok (.bipush 60, 2) := by decide +kernel
theorem dX0_init_37 : decode cX0_init 37 = .ok (.invokespecial 11, 3) := by decide +kernel
theorem dX0_init_40 : decode cX0_init 40 = .ok (.putfield 23, 3) := by decide +kernel
theorem dX0_init_43 : decode cX0_init 43 = .ok (.aload_n 0, 1) := by decide +kernel
theorem dX0_init_44 : decode cX0_init 44 = .ok (.iconst 0, 1) := by decide +kernel
theorem dX0_init_45 : decode cX0_init 45 = .ok (.putfield 26, 3) := by decide +kernel
theorem dX0_init_48 : decode cX0_init 48 = .ok (.return_, 1) := by decide +kernel
theorem dX0_pages_0 : decode cX0_pages 0 = .ok (.iconst 2, 1) := by decide +kernel
theorem dX0_pages_1 : decode cX0_pages 1 = .ok (.aload_n 0, 1) := by decide +kernel
theorem dX0_pages_2 : decode cX0_pages 2 = .ok (.getfield 26, 3) := by decide +kernel
theorem dX0_pages_5 : decode cX0_pages 5 = .ok (.imul, 1) := by decide +kernel
theorem dX0_pages_6 : decode cX0_pages 6 = .ok (.ireturn, 1) := by decide +kernel
set_option maxRecDepth 20000 in
theorem ggX0_hasPage_X0_pages : GoodIn wsX0_hasPage wsX0_pages := goodIn_r _ [5, 6, 7, 8, 9, 10] (by decide +kernel) (by decide +kernel)
set_option maxRecDepth 20000 in
theorem gX0_hasPage_X0_pages : GoodIn wsX0_hasPage (wsV RX0 30 RX0 yX0_pages wsX0_pages) := goodIn_app (goodIn_of _ (by decide +kernel)) ggX0_hasPage_X0_pages
theorem dX0_hasPage_0 : decode cX0_hasPage 0 = .ok (.iload_n 1, 1) := by decide +kernel
theorem dX0_hasPage_1 : decode cX0_hasPage 1 = .ok (.ifCond .lt 15, 3) := by decide +kernel
theorem dX0_hasPage_4 : decode cX0_hasPage 4 = .ok (.iload_n 1, 1) := by decide +kernel
theorem dX0_hasPage_5 : decode cX0_hasPage 5 = .ok (.aload_n 0, 1) := by decide +kernel
theorem dX0_hasPage_6 : decode cX0_hasPage 6 = .ok (.invokevirtual 30, 3) := by decide +kernel
theorem dX0_hasPage_9 : decode cX0_hasPage 9 = .ok (.if_icmp .ge 7, 3) := by decide +kernel
theorem dX0_hasPage_12 : decode cX0_hasPage 12 = .ok (.iconst 1, 1) := by decide +kernel
theorem dX0_hasPage_13 : decode cX0_hasPage 13 = .ok (.goto 4, 3) := by decide +kernel
theorem dX0_hasPage_16 : decode cX0_hasPage 16 = .ok (.iconst 0, 1) := by decide +kernel
theorem dX0_hasPage_17 : decode cX0_hasPage 17 = .ok (.ireturn, 1) := by decide +kernel
set_option maxRecDepth 20000 in
theorem ggX0_addLeaf_X3_put : GoodIn wsX0_addLeaf wsX3_put := goodIn_r _ [9, 10, 11, 12, 13, 8, 14, 19] (by decide +kernel) (by decide +kernel)
set_option maxRecDepth 20000 in
theorem gX0_addLeaf_X3_put : GoodIn wsX0_addLeaf (wsV RX0 34 RX3 yX3_put wsX3_put) := goodIn_app (goodIn_of _ (by decide +kernel)) ggX0_addLeaf_X3_put
theorem dX0_addLeaf_0 : decode cX0_addLeaf 0 = .ok (.aload_n 0, 1) := by decide +kernel
theorem dX0_addLeaf_1 : decode cX0_addLeaf 1 = .ok (.getfield 26, 3) := by decide +kernel
theorem dX0_addLeaf_4 : decode cX0_addLeaf 4 = .ok (.bipush 30, 2) := by decide +kernel
theorem dX0_addLeaf_6 : decode cX0_addLeaf 6 = .ok (.if_icmp .lt 4, 3) := by decide +kernel
theorem dX0_addLeaf_9 : decode cX0_addLeaf 9 = .ok (.return_, 1) := by decide +kernel
theorem dX0_addLeaf_10 : decode cX0_addLeaf 10 = .ok (.iconst 2, 1) := by decide +kernel
theorem dX0_addLeaf_11 : decode cX0_addLeaf 11 = .ok (.aload_n 0, 1) := by decide +kernel
theorem dX0_addLeaf_12 : decode cX0_addLeaf 12 = .ok (.getfield 26, 3) := by decide +kernel
theorem dX0_addLeaf_15 : decode cX0_addLeaf 15 = .ok (.imul, 1) := by decide +kernel
theorem dX0_addLeaf_16 : decode cX0_addLeaf 16 = .ok (.istore_n 3, 1) := by decide +kernel
theorem dX0_addLeaf_17 : decode cX0_addLeaf 17 = .ok (.aload_n 0, 1) := by decide +kernel
theorem dX0_addLeaf_18 : decode cX0_addLeaf 18 = .ok (.getfield 14, 3) := by decide +kernel
theorem dX0_addLeaf_21 : decode cX0_addLeaf 21 = .ok (.aload_n 0, 1) := by decide +kernel
theorem dX0_addLeaf_22 : decode cX0_addLeaf 22 = .ok (.getfield 26, 3) := by decide +kernel
theorem dX0_addLeaf_25 : decode cX0_addLeaf 25 = .ok (.iload_n 1, 1) := by decide +kernel
theorem dX0_addLeaf_26 : decode cX0_addLeaf 26 = .ok (.invokevirtual 34, 3) := by decide +kernel
theorem dX0_addLeaf_29 : decode cX0_addLeaf 29 = .ok (.aload_n 0, 1) := by decide +kernel
theorem dX0_addLeaf_30 : decode cX0_addLeaf 30 = .ok (.getfield 20, 3) := by decide +kernel
theorem dX0_addLeaf_33 : decode cX0_addLeaf 33 = .ok (.aload_n 0, 1) := by decide +kernel
theorem dX0_addLeaf_34 : decode cX0_addLeaf 34 = .ok (.getfield 26, 3) := by decide +kernel
theorem dX0_addLeaf_37 : decode cX0_addLeaf 37 = .ok (.iload_n 2, 1) := by decide +kernel
theorem dX0_addLeaf_38 : decode cX0_addLeaf 38 = .ok (.invokevirtual 34, 3) := by decide +kernel
theorem dX0_addLeaf_41 : decode cX0_addLeaf 41 = .ok (.aload_n 0, 1) := by decide +kernel
theorem dX0_addLeaf_42 : decode cX0_addLeaf 42 = .ok (.dup, 1) := by decide +kernel
theorem dX0_addLeaf_43 : decode cX0_addLeaf 43 = .ok (.getfield 26, 3) := by decide +kernel
theorem dX0_addLeaf_46 : decode cX0_addLeaf 46 = .ok (.iconst 1, 1) := by decide +kernel
theorem dX0_addLeaf_47 : decode cX0_addLeaf 47 = .ok (.iadd, 1) := by decide +kernel
theorem dX0_addLeaf_48 : decode cX0_addLeaf 48 = .ok (.putfield 26, 3) := by decide +kernel
theorem dX0_addLeaf_51 : decode cX0_addLeaf 51 = .ok (.aload_n 0, 1) := by decide +kernel
theorem dX0_addLeaf_52 : decode cX0_addLeaf 52 = .ok (.getfield 23, 3) := by decide +kernel
theorem dX0_addLeaf_55 : decode cX0_addLeaf 55 = .ok (.iload_n 3, 1) := by decide +kernel
theorem dX0_addLeaf_56 : decode cX0_addLeaf 56 = .ok (.iload_n 3, 1) := by decide +kernel
theorem dX0_addLeaf_57 : decode cX0_addLeaf 57 = .ok (.iconst 1, 1) := by decide +kernel
theorem dX0_addLeaf_58 : decode cX0_addLeaf 58 = .ok (.iadd, 1) := by decide +kernel
theorem dX0_addLeaf_59 : decode cX0_addLeaf 59 = .ok (.invokevirtual 34, 3) := by decide +kernel
theorem dX0_addLeaf_62 : decode cX0_addLeaf 62 = .ok (.aload_n 0, 1) := by decide +kernel
theorem dX0_addLeaf_63 : decode cX0_addLeaf 63 = .ok (.getfield 23, 3) := by decide +kernel
theorem dX0_addLeaf_66 : decode cX0_addLeaf 66 = .ok (.iload_n 3, 1) := by decide +kernel
theorem dX0_addLeaf_67 : decode cX0_addLeaf 67 = .ok (.iconst 1, 1) := by decide +kernel
theorem dX0_addLeaf_68 : decode cX0_addLeaf 68 = .ok (.iadd, 1) := by decide +kernel
theorem dX0_addLeaf_69 : decode cX0_addLeaf 69 = .ok (.iload_n 3, 1) := by decide +kernel
theorem dX0_addLeaf_70 : decode cX0_addLeaf 70 = .ok (.iconst 2, 1) := by decide +kernel
theorem dX0_addLeaf_71 : decode cX0_addLeaf 71 = .ok (.iadd, 1) := by decide +kernel
theorem dX0_addLeaf_72 : decode cX0_addLeaf 72 = .ok (.invokevirtual 34, 3) := by decide +kernel
theorem dX0_addLeaf_75 : decode cX0_addLeaf 75 = .ok (.return_, 1) := by decide +kernel
set_option maxRecDepth 20000 in
theorem ggX0_printNothingOnLast_X0_pages : GoodIn wsX0_printNothingOnLast wsX0_pages := goodIn_r _ [6, 7, 18, 19, 20, 21] (by decide +kernel) (by decide +kernel)
set_option maxRecDepth 20000 in
theorem gX0_printNothingOnLast_X0_pages : GoodIn wsX0_printNothingOnLast (wsV RX0 30 RX0 yX0_pages wsX0_pages) := goodIn_app (goodIn_of _ (by decide +kernel)) ggX0_printNothingOnLast_X0_pages
set_option maxRecDepth 20000 in
theorem ggX0_printNothingOnLast_X3_put : GoodIn wsX0_printNothingOnLast wsX3_put := goodIn_r _ [12, 13, 14, 15, 16, 11, 17, 22] (by decide +kernel) (by decide +kernel)
set_option maxRecDepth 20000 in
theorem gX0_printNothingOnLast_X3_put : GoodIn wsX0_printNothingOnLast (wsV RX0 34 RX3 yX3_put wsX3_put) := goodIn_app (goodIn_of _ (by decide +kernel)) ggX0_printNothingOnLast_X3_put
theorem dX0_printNothingOnLast_0 : decode cX0_printNothingOnLast 0 = .ok (.aload_n 0, 1) := by decide +kernel
theorem dX0_printNothingOnLast_1 : decode cX0_printNothingOnLast 1 = .ok (.getfield 23, 3) := by decide +kernel
theorem dX0_printNothingOnLast_4 : decode cX0_printNothingOnLast 4 = .ok (.aload_n 0, 1) := by decide +kernel
theorem dX0_printNothingOnLast_5 : decode cX0_printNothingOnLast 5 = .ok (.invokevirtual 30, 3) := by decide +kernel
theorem dX0_printNothingOnLast_8 : decode cX0_printNothingOnLast 8 = .ok (.iconst 2, 1) := by decide +kernel
theorem dX0_printNothingOnLast_9 : decode cX0_printNothingOnLast 9 = .ok (.isub, 1) := by decide +kernel
theorem dX0_printNothingOnLast_10 : decode cX0_printNothingOnLast 10 = .ok (.bipush (-5), 2) := by decide +kernel
theorem dX0_printNothingOnLast_12 : decode cX0_printNothingOnLast 12 = .ok (.invokevirtual 34, 3) := by decide +kernel
theorem dX0_printNothingOnLast_15 : decode cX0_printNothingOnLast 15 = .ok (.aload_n 0, 1) := by decide +kernel
theorem dX0_printNothingOnLast_16 : decode cX0_printNothingOnLast 16 = .ok (.getfield 23, 3) := by decide +kernel
theorem dX0_printNothingOnLast_19 : decode cX0_printNothingOnLast 19 = .ok (.aload_n 0, 1) := by decide +kernel
theorem dX0_printNothingOnLast_20 : decode cX0_printNothingOnLast 20 = .ok (.invokevirtual 30, 3) := by decide +kernel
theorem dX0_printNothingOnLast_23 : decode cX0_printNothingOnLast 23 = .ok (.iconst 1, 1) := by decide +kernel
theorem dX0_printNothingOnLast_24 : decode cX0_printNothingOnLast 24 = .ok (.isub, 1) := by decide +kernel
theorem dX0_printNothingOnLast_25 : decode cX0_printNothingOnLast 25 = .ok (.bipush (-5), 2) := by decide +kernel
theorem dX0_printNothingOnLast_27 : decode cX0_printNothingOnLast 27 = .ok (.invokevirtual 34, 3) := by decide +kernel
theorem dX0_printNothingOnLast_30 : decode cX0_printNothingOnLast 30 = .ok (.return_, 1) := by decide +kernel
set_option maxRecDepth 20000 in
theorem ggX0_printTooMuchOnLast_X0_pages : GoodIn wsX0_printTooMuchOnLast wsX0_pages := goodIn_r _ [6, 7, 18, 19, 20, 21] (by decide +kernel) (by decide +kernel)
set_option maxRecDepth 20000 in
theorem gX0_printTooMuchOnLast_X0_pages : GoodIn wsX0_printTooMuchOnLast (wsV RX0 30 RX0 yX0_pages wsX0_pages) := goodIn_app (goodIn_of _ (by decide +kernel)) ggX0_printTooMuchOnLast_X0_pages
set_option maxRecDepth 20000 in
theorem ggX0_printTooMuchOnLast_X3_put : GoodIn wsX0_printTooMuchOnLast wsX3_put := goodIn_r _ [12, 13, 14, 15, 16, 11, 17, 22] (by decide +kernel) (by decide +kernel)
set_option maxRecDepth 20000 in
theorem gX0_printTooMuchOnLast_X3_put : GoodIn wsX0_printTooMuchOnLast (wsV RX0 34 RX3 yX3_put wsX3_put) := goodIn_app (goodIn_of _ (by decide +kernel)) ggX0_printTooMuchOnLast_X3_put
theorem dX0_printTooMuchOnLast_0 : decode cX0_printTooMuchOnLast 0 = .ok (.aload_n 0, 1) := by decide +kernel
theorem dX0_printTooMuchOnLast_1 : decode cX0_printTooMuchOnLast 1 = .ok (.getfield 23, 3) := by decide +kernel
theorem dX0_printTooMuchOnLast_4 : decode cX0_printTooMuchOnLast 4 = .ok (.aload_n 0, 1) := by decide +kernel
theorem dX0_printTooMuchOnLast_5 : decode cX0_printTooMuchOnLast 5 = .ok (.invokevirtual 30, 3) := by decide +kernel
theorem dX0_printTooMuchOnLast_8 : decode cX0_printTooMuchOnLast 8 = .ok (.iconst 2, 1) := by decide +kernel
theorem dX0_printTooMuchOnLast_9 : decode cX0_printTooMuchOnLast 9 = .ok (.isub, 1) := by decide +kernel
theorem dX0_printTooMuchOnLast_10 : decode cX0_printTooMuchOnLast 10 = .ok (.aload_n 0, 1) := by decide +kernel
theorem dX0_printTooMuchOnLast_11 : decode cX0_printTooMuchOnLast 11 = .ok (.invokevirtual 30, 3) := by decide +kernel
theorem dX0_printTooMuchOnLast_14 : decode cX0_printTooMuchOnLast 14 = .ok (.iconst 1, 1) := by decide +kernel
theorem dX0_printTooMuchOnLast_15 : decode cX0_printTooMuchOnLast 15 = .ok (.iadd, 1) := by decide +kernel
theorem dX0_printTooMuchOnLast_16 : decode cX0_printTooMuchOnLast 16 = .ok (.invokevirtual 34, 3) := by decide +kernel
theorem dX0_printTooMuchOnLast_19 : decode cX0_printTooMuchOnLast 19 = .ok (.aload_n 0, 1) := by decide +kernel
theorem dX0_printTooMuchOnLast_20 : decode cX0_printTooMuchOnLast 20 = .ok (.getfield 23, 3) := by decide +kernel
theorem dX0_printTooMuchOnLast_23 : decode cX0_printTooMuchOnLast 23 = .ok (.aload_n 0, 1) := by decide +kernel
theorem dX0_printTooMuchOnLast_24 : decode cX0_printTooMuchOnLast 24 = .ok (.invokevirtual 30, 3) := by decide +kernel
theorem dX0_printTooMuchOnLast_27 : decode cX0_printTooMuchOnLast 27 = .ok (.iconst 1, 1) := by decide +kernel
theorem dX0_printTooMuchOnLast_28 : decode cX0_printTooMuchOnLast 28 = .ok (.isub, 1) := by decide +kernel
theorem dX0_printTooMuchOnLast_29 : decode cX0_printTooMuchOnLast 29 = .ok (.aload_n 0, 1) := by decide +kernel
theorem dX0_printTooMuchOnLast_30 : decode cX0_printTooMuchOnLast 30 = .ok (.invokevirtual 30, 3) := by decide +kernel
theorem dX0_printTooMuchOnLast_33 : decode cX0_printTooMuchOnLast 33 = .ok (.iconst 2, 1) := by decide +kernel
theorem dX0_printTooMuchOnLast_34 : decode cX0_printTooMuchOnLast 34 = .ok (.iadd, 1) := by decide +kernel
theorem dX0_printTooMuchOnLast_35 : decode cX0_printTooMuchOnLast 35 = .ok (.invokevirtual 34, 3) := by decide +kernel
theorem dX0_printTooMuchOnLast_38 : decode cX0_printTooMuchOnLast 38 = .ok (.return_, 1) := by decide +kernel
set_option maxRecDepth 20000 in
theorem ggX0_layBySeed_X0_addLeaf : GoodIn wsX0_layBySeed wsX0_addLeaf := goodIn_r _ [6, 1, 7, 8, 9, 10, 11, 12, 13, 14, 15, 16, 17, 18, 19, 28, 29, 30, 31, 32] (by decide +kernel) (by decide +kernel)
set_option maxRecDepth 20000 in
theorem gX0_layBySeed_X0_addLeaf : GoodIn wsX0_layBySeed (wsV RX0 38 RX0 yX0_addLeaf wsX0_addLeaf) := goodIn_app (goodIn_of _ (by decide +kernel)) ggX0_layBySeed_X0_addLeaf
set_option maxRecDepth 20000 in
theorem ggX0_layBySeed_X0_printNothingOnLast : GoodIn wsX0_layBySeed wsX0_printNothingOnLast := goodIn_r _ [23, 9, 24, 25, 26, 5, 27, 1, 10, 11, 12, 13, 14, 15, 16, 17, 18, 19, 28, 29, 30, 31, 32] (by decide +kernel) (by decide +kernel)
set_option maxRecDepth 20000 in
theorem gX0_layBySeed_X0_printNothingOnLast : GoodIn wsX0_layBySeed (wsV RX0 41 RX0 yX0_printNothingOnLast wsX0_printNothingOnLast) := goodIn_app (goodIn_of _ (by decide +kernel)) ggX0_layBySeed_X0_printNothingOnLast
theorem dX0_layBySeed_0 : decode cX0_layBySeed 0 = .ok (.aload_n 0, 1) := by decide +kernel
theorem dX0_layBySeed_1 : decode cX0_layBySeed 1 = .ok (.iconst 0, 1) := by decide +kernel
theorem dX0_layBySeed_2 : decode cX0_layBySeed 2 = .ok (.putfield 26, 3) := by decide +kernel
theorem dX0_layBySeed_5 : decode cX0_layBySeed 5 = .ok (.iload_n 2, 1) := by decide +kernel
theorem dX0_layBySeed_6 : decode cX0_layBySeed 6 = .ok (.istore_n 3, 1) := by decide +kernel
theorem dX0_layBySeed_7 : decode cX0_layBySeed 7 = .ok (.iconst 0, 1) := by decide +kernel
theorem dX0_layBySeed_8 : decode cX0_layBySeed 8 = .ok (.istore 4, 2) := by decide +kernel
theorem dX0_layBySeed_10 : decode cX0_layBySeed 10 = .ok (.iconst 0, 1) := by decide +kernel
theorem dX0_layBySeed_11 : decode cX0_layBySeed 11 = .ok (.istore 5, 2) := by decide +kernel
theorem dX0_layBySeed_13 : decode cX0_layBySeed 13 = .ok (.iload 5, 2) := by decide +kernel
theorem dX0_layBySeed_15 : decode cX0_layBySeed 15 = .ok (.iload_n 1, 1) := by decide +kernel
theorem dX0_layBySeed_16 : decode cX0_layBySeed 16 = .ok (.if_icmp .ge 79, 3) := by decide +kernel
theorem dX0_layBySeed_19 : decode cX0_layBySeed 19 = .ok (.sipush 421, 3) := by decide +kernel
theorem dX0_layBySeed_22 : decode cX0_layBySeed 22 = .ok (.iload_n 3, 1) := by decide +kernel
theorem dX0_layBySeed_23 : decode cX0_layBySeed 23 = .ok (.imul, 1) := by decide +kernel
theorem dX0_layBySeed_24 : decode cX0_layBySeed 24 = .ok (.sipush 1663, 3) := by decide +kernel
theorem dX0_layBySeed_27 : decode cX0_layBySeed 27 = .ok (.iadd, 1) := by decide +kernel
theorem dX0_layBySeed_28 : decode cX0_layBySeed 28 = .ok (.sipush 10000, 3) := by decide +kernel
theorem dX0_layBySeed_31 : decode cX0_layBySeed 31 = .ok (.irem, 1) := by decide +kernel
theorem dX0_layBySeed_32 : decode cX0_layBySeed 32 = .ok (.istore_n 3, 1) := by decide +kernel
theorem dX0_layBySeed_33 : decode cX0_layBySeed 33 = .ok (.iconst 1, 1) := by decide +kernel
theorem dX0_layBySeed_34 : decode cX0_layBySeed 34 = .ok (.iload_n 3, 1) := by decide +kernel
theorem dX0_layBySeed_35 : decode cX0_layBySeed 35 = .ok (.iconst 5, 1) := by decide +kernel
theorem dX0_layBySeed_36 : decode cX0_layBySeed 36 = .ok (.irem, 1) := by decide +kernel
theorem dX0_layBySeed_37 : decode cX0_layBySeed 37 = .ok (.iadd, 1) := by decide +kernel
theorem dX0_layBySeed_38 : decode cX0_layBySeed 38 = .ok (.istore 6, 2) := by decide +kernel
theorem dX0_layBySeed_40 : decode cX0_layBySeed 40 = .ok (.iload_n 3, 1) := by decide +kernel
theorem dX0_layBySeed_41 : decode cX0_layBySeed 41 = .ok (.bipush 10, 2) := by decide +kernel
theorem dX0_layBySeed_43 : decode cX0_layBySeed 43 = .ok (.idiv, 1) := by decide +kernel
theorem dX0_layBySeed_44 : decode cX0_layBySeed 44 = .ok (.bipush 10, 2) := by decide +kernel
theorem dX0_layBySeed_46 : decode cX0_layBySeed 46 = .ok (.irem, 1) := by decide +kernel
theorem dX0_layBySeed_47 : decode cX0_layBySeed 47 = .ok (.istore 7, 2) := by decide +kernel
theorem dX0_layBySeed_49 : decode cX0_layBySeed 49 = .ok (.aload_n 0, 1) := by decide +kernel
theorem dX0_layBySeed_50 : decode cX0_layBySeed 50 = .ok (.iload 6, 2) := by decide +kernel
theorem dX0_layBySeed_52 : decode cX0_layBySeed 52 = .ok (.iload 7, 2) := by decide +kernel
theorem dX0_layBySeed_54 : decode cX0_layBySeed 54 = .ok (.bipush 6, 2) := by decide +kernel
theorem dX0_layBySeed_56 : decode cX0_layBySeed 56 = .ok (.if_icmp .ge 7, 3) := by decide +kernel
theorem dX0_layBySeed_59 : decode cX0_layBySeed 59 = .ok (.iconst 0, 1) := by decide +kernel
theorem dX0_layBySeed_60 : decode cX0_layBySeed 60 = .ok (.goto 5, 3) := by decide +kernel
theorem dX0_layBySeed_63 : decode cX0_layBySeed 63 = .ok (.iload 7, 2) := by decide +kernel
theorem dX0_layBySeed_65 : decode cX0_layBySeed 65 = .ok (.invokevirtual 38, 3) := by decide +kernel
theorem dX0_layBySeed_68 : decode cX0_layBySeed 68 = .ok (.iload_n 3, 1) := by decide +kernel
theorem dX0_layBySeed_69 : decode cX0_layBySeed 69 = .ok (.bipush 100, 2) := by decide +kernel
theorem dX0_layBySeed_71 : decode cX0_layBySeed 71 = .ok (.idiv, 1) := by decide +kernel
theorem dX0_layBySeed_72 : decode cX0_layBySeed 72 = .ok (.bipush 8, 2) := by decide +kernel
theorem dX0_layBySeed_74 : decode cX0_layBySeed 74 = .ok (.irem, 1) := by decide +kernel
theorem dX0_layBySeed_75 : decode cX0_layBySeed 75 = .ok (.ifCond .ne 7, 3) := by decide +kernel
theorem dX0_layBySeed_78 : decode cX0_layBySeed 78 = .ok (.aload_n 0, 1) := by decide +kernel
theorem dX0_layBySeed_79 : decode cX0_layBySeed 79 = .ok (.invokevirtual 41, 3) := by decide +kernel
theorem dX0_layBySeed_82 : decode cX0_layBySeed 82 = .ok (.iload 4, 2) := by decide +kernel
theorem dX0_layBySeed_84 : decode cX0_layBySeed 84 = .ok (.iload 6, 2) := by decide +kernel
theorem dX0_layBySeed_86 : decode cX0_layBySeed 86 = .ok (.iadd, 1) := by decide +kernel
theorem dX0_layBySeed_87 : decode cX0_layBySeed 87 = .ok (.istore 4, 2) := by decide +kernel
theorem dX0_layBySeed_89 : decode cX0_layBySeed 89 = .ok (.iinc 5 1, 3) := by decide +kernel
theorem dX0_layBySeed_92 : decode cX0_layBySeed 92 = .ok (.goto (-79), 3) := by decide +kernel
theorem dX0_layBySeed_95 : decode cX0_layBySeed 95 = .ok (.iload 4, 2) := by decide +kernel
theorem dX0_layBySeed_97 : decode cX0_layBySeed 97 = .ok (.ireturn, 1) := by decide +kernel
set_option maxRecDepth 20000 in
theorem ggX0_copyFrom_X3_copyFrom : GoodIn wsX0_copyFrom wsX3_copyFrom := goodIn_r _ [9, 10, 11, 12, 13, 14, 15, 16, 17, 18, 23] (by decide +kernel) (by decide +kernel)
set_option maxRecDepth 20000 in
theorem gX0_copyFrom_X3_copyFrom : GoodIn wsX0_copyFrom (wsV RX0 44 RX3 yX3_copyFrom wsX3_copyFrom) := goodIn_app (goodIn_of _ (by decide +kernel)) ggX0_copyFrom_X3_copyFrom
theorem dX0_copyFrom_0 : decode cX0_copyFrom 0 = .ok (.aload_n 0, 1) := by decide +kernel
theorem dX0_copyFrom_1 : decode cX0_copyFrom 1 = .ok (.getfield 14, 3) := by decide +kernel
theorem dX0_copyFrom_4 : decode cX0_copyFrom 4 = .ok (.aload_n 1, 1) := by decide +kernel
theorem dX0_copyFrom_5 : decode cX0_copyFrom 5 = .ok (.getfield 14, 3) := by decide +kernel
theorem dX0_copyFrom_8 : decode cX0_copyFrom 8 = .ok (.invokevirtual 44, 3) := by decide +kernel
theorem dX0_copyFrom_11 : decode cX0_copyFrom 11 = .ok (.aload_n 0, 1) := by decide +kernel
theorem dX0_copyFrom_12 : decode cX0_copyFrom 12 = .ok (.getfield 20, 3) := by decide +kernel
theorem dX0_copyFrom_15 : decode cX0_copyFrom 15 = .ok (.aload_n 1, 1) := by decide +kernel
theorem dX0_copyFrom_16 : decode cX0_copyFrom 16 = .ok (.getfield 20, 3) := by decide +kernel
theorem dX0_copyFrom_19 : decode cX0_copyFrom 19 = .ok (.invokevirtual 44, 3) := by decide +kernel
theorem dX0_copyFrom_22 : decode cX0_copyFrom 22 = .ok (.aload_n 0, 1) := by decide +kernel
theorem dX0_copyFrom_23 : decode cX0_copyFrom 23 = .ok (.getfield 23, 3) := by decide +kernel
theorem dX0_copyFrom_26 : decode cX0_copyFrom 26 = .ok (.aload_n 1, 1) := by decide +kernel
theorem dX0_copyFrom_27 : decode cX0_copyFrom 27 = .ok (.getfield 23, 3) := by decide +kernel
theorem dX0_copyFrom_30 : decode cX0_copyFrom 30 = .ok (.invokevirtual 44, 3) := by decide +kernel
theorem dX0_copyFrom_33 : decode cX0_copyFrom 33 = .ok (.aload_n 0, 1) := by decide +kernel
theorem dX0_copyFrom_34 : decode cX0_copyFrom 34 = .ok (.aload_n 1, 1) := by decide +kernel
theorem dX0_copyFrom_35 : decode cX0_copyFrom 35 = .ok (.getfield 26, 3) := by decide +kernel
theorem dX0_copyFrom_38 : decode cX0_copyFrom 38 = .ok (.putfield 26, 3) := by decide +kernel
theorem dX0_copyFrom_41 : decode cX0_copyFrom 41 = .ok (.return_, 1) := by decide +kernel
theorem dX1_init_0 : decode cX1_init 0 = .ok (.aload_n 0, 1) := by decide +kernel
theorem dX1_init_1 : decode cX1_init 1 = .ok (.invokespecial 3, 3) := by decide +kernel
theorem dX1_init_4 : decode cX1_init 4 = .ok (.aload_n 0, 1) := by decide +kernel
theorem dX1_init_5 : decode cX1_init 5 = .ok (.bipush 60, 2) := by decide +kernel
theorem dX1_init_7 : decode cX1_init 7 = .ok (.newarray .char, 2) := by decide +kernel
theorem dX1_init_9 : decode cX1_init 9 = .ok (.putfield 9, 3) := by decide +kernel
theorem dX1_init_12 : decode cX1_init 12 = .ok (.aload_n 0, 1) := by decide +kernel
theorem dX1_init_13 : decode cX1_init 13 = .ok (.iconst 0, 1) := by decide +kernel
theorem dX1_init_14 : decode cX1_init 14 = .ok (.putfield 15, 3) := by decide +kernel
theorem dX1_init_17 : decode cX1_init 17 = .ok (.return_, 1) := by decide +kernel
theorem dX1_add_0 : decode cX1_add 0 = .ok (.aload_n 0, 1) := by decide +kernel
theorem dX1_add_1 : decode cX1_add 1 = .ok (.getfield 15, 3) := by decide +kernel
theorem dX1_add_4 : decode cX1_add 4 = .ok (.ifCond .lt 35, 3) := by decide +kernel
theorem dX1_add_7 : decode cX1_add 7 = .ok (.aload_n 0, 1) := by decide +kernel
theorem dX1_add_8 : decode cX1_add 8 = .ok (.getfield 15, 3) := by decide +kernel
theorem dX1_add_11 : decode cX1_add 11 = .ok (.aload_n 0, 1) := by decide +kernel
theorem dX1_add_12 : decode cX1_add 12 = .ok (.getfield 9, 3) := by decide +kernel
theorem dX1_add_15 : decode cX1_add 15 = .ok (.arraylength, 1) := by decide +kernel
theorem dX1_add_16 : decode cX1_add 16 = .ok (.if_icmp .ge 23, 3) := by decide +kernel
theorem dX1_add_19 : decode cX1_add 19 = .ok (.aload_n 0, 1) := by decide +kernel
theorem dX1_add_20 : decode cX1_add 20 = .ok (.getfield 9, 3) := by decide +kernel
theorem dX1_add_23 : decode cX1_add 23 = .ok (.aload_n 0, 1) := by decide +kernel
theorem dX1_add_24 : decode cX1_add 24 = .ok (.getfield 15, 3) := by decide +kernel
theorem dX1_add_27 : decode cX1_add 27 = .ok (.iload_n 1, 1) := by decide +kernel
theorem dX1_add_28 : decode cX1_add 28 = .ok (.castore, 1) := by decide +kernel
theorem dX1_add_29 : decode cX1_add 29 = .ok (.aload_n 0, 1) := by decide +kernel
theorem dX1_add_30 : decode cX1_add 30 = .ok (.dup, 1) := by decide +kernel
theorem dX1_add_31 : decode cX1_add 31 = .ok (.getfield 15, 3) := by decide +kernel
theorem dX1_add_34 : decode cX1_add 34 = .ok (.iconst 1, 1) := by decide +kernel
theorem dX1_add_35 : decode cX1_add 35 = .ok (.iadd, 1) := by decide +kernel
theorem dX1_add_36 : decode cX1_add 36 = .ok (.putfield 15, 3) := by decide +kernel
theorem dX1_add_39 : decode cX1_add 39 = .ok (.return_, 1) := by decide +kernel
set_option maxRecDepth 20000 in
theorem ggX1_readInto_X1_isDigit : GoodIn wsX1_readInto wsX1_isDigit := goodIn_r _ [6, 7, 8, 9, 10, 5, 11, 1, 59, 60] (by decide +kernel) (by decide +kernel)
set_option maxRecDepth 20000 in
theorem gX1_readInto_X1_isDigit : GoodIn wsX1_readInto (wsV RX1 24 RX1 yX1_isDigit wsX1_isDigit) := goodIn_app (goodIn_of _ (by decide +kernel)) ggX1_readInto_X1_isDigit
set_option maxRecDepth 20000 in
theorem ggX1_readInto_X1_digit : GoodIn wsX1_readInto wsX1_digit := goodIn_r _ [15, 7, 8, 9, 10, 5, 11, 1, 59, 60] (by decide +kernel) (by decide +kernel)
set_option maxRecDepth 20000 in
theorem gX1_readInto_X1_digit : GoodIn wsX1_readInto (wsV RX1 28 RX1 yX1_digit wsX1_digit) := goodIn_app (goodIn_of _ (by decide +kernel)) ggX1_readInto_X1_digit
set_option maxRecDepth 20000 in
theorem ggX1_readInto_X1_is : GoodIn wsX1_readInto wsX1_is := goodIn_r _ [19, 7, 8, 9, 10, 5, 11, 1, 59, 60] (by decide +kernel) (by decide +kernel)
set_option maxRecDepth 20000 in
theorem gX1_readInto_X1_is : GoodIn wsX1_readInto (wsV RX1 32 RX1 yX1_is wsX1_is) := goodIn_app (goodIn_of _ (by decide +kernel)) ggX1_readInto_X1_is
set_option maxRecDepth 20000 in
theorem ggX1_readInto_X0_addLeaf : GoodIn wsX1_readInto wsX0_addLeaf := goodIn_r _ [24, 25, 26, 27, 28, 29, 30, 31, 32, 33, 34, 35, 36, 37, 38, 55, 56, 57, 58, 61] (by decide +kernel) (by decide +kernel)
set_option maxRecDepth 20000 in
theorem gX1_readInto_X0_addLeaf : GoodIn wsX1_readInto (wsV RX1 36 RX0 yX0_addLeaf wsX0_addLeaf) := goodIn_app (goodIn_of _ (by decide +kernel)) ggX1_readInto_X0_addLeaf
set_option maxRecDepth 20000 in
theorem ggX1_readInto_X1_readMark : GoodIn wsX1_readInto wsX1_readMark := goodIn_r _ [42, 16, 17, 18, 5, 19, 7, 8, 9, 10, 11, 1, 43, 44, 45, 23, 46, 28, 47, 48, 49, 50, 25, 29, 30, 31, 32, 33, 34, 35, 36, 37, 38, 51, 52, 53, 54, 59, 60, 55, 56, 57, 58, 61] (by decide +kernel) (by decide +kernel)
set_option maxRecDepth 20000 in
theorem gX1_readInto_X1_readMark : GoodIn wsX1_readInto (wsV RX1 40 RX1 yX1_readMark wsX1_readMark) := goodIn_app (goodIn_of _ (by decide +kernel)) ggX1_readInto_X1_readMark
theorem dX1_readInto_0 : decode cX1_readInto 0 = .ok (.aload_n 1, 1) := by decide +kernel
theorem dX1_readInto_1 : decode cX1_readInto 1 = .ok (.iconst 0, 1) := by decide +kernel
theorem dX1_readInto_2 : decode cX1_readInto 2 = .ok (.putfield 19, 3) := by decide +kernel
theorem dX1_readInto_5 : decode cX1_readInto 5 = .ok (.iconst 0, 1) := by decide +kernel
theorem dX1_readInto_6 : decode cX1_readInto 6 = .ok (.istore_n 2, 1) := by decide +kernel
theorem dX1_readInto_7 : decode cX1_readInto 7 = .ok (.iconst 0, 1) := by decide +kernel
theorem dX1_readInto_8 : decode cX1_readInto 8 = .ok (.istore_n 3, 1) := by decide +kernel
theorem dX1_readInto_9 : decode cX1_readInto 9 = .ok (.iload_n 3, 1) := by decide +kernel
theorem dX1_readInto_10 : decode cX1_readInto 10 = .ok (.bipush 30, 2) := by decide +kernel
theorem dX1_readInto_12 : decode cX1_readInto 12 = .ok (.if_icmp .ge 114, 3) := by decide +kernel
theorem dX1_readInto_15 : decode cX1_readInto 15 = .ok (.aload_n 0, 1) := by decide +kernel
theorem dX1_readInto_16 : decode cX1_readInto 16 = .ok (.iload_n 2, 1) := by decide +kernel
theorem dX1_readInto_17 : decode cX1_readInto 17 = .ok (.invokevirtual 24, 3) := by decide +kernel
theorem dX1_readInto_20 : decode cX1_readInto 20 = .ok (.ifCond .ne 5, 3) := by decide +kernel
theorem dX1_readInto_23 : decode cX1_readInto 23 = .ok (.iload_n 2, 1) := by decide +kernel
theorem dX1_readInto_24 : decode cX1_readInto 24 = .ok (.ireturn, 1) := by decide +kernel
theorem dX1_readInto_25 : decode cX1_readInto 25 = .ok (.aload_n 0, 1) := by decide +kernel
theorem dX1_readInto_26 : decode cX1_readInto 26 = .ok (.iload_n 2, 1) := by decide +kernel
theorem dX1_readInto_27 : decode cX1_readInto 27 = .ok (.invokevirtual 28, 3) := by decide +kernel
theorem dX1_readInto_30 : decode cX1_readInto 30 = .ok (.istore 4, 2) := by decide +kernel
theorem dX1_readInto_32 : decode cX1_readInto 32 = .ok (.iconst 0, 1) := by decide +kernel
theorem dX1_readInto_33 : decode cX1_readInto 33 = .ok (.istore 5, 2) := by decide +kernel
theorem dX1_readInto_35 : decode cX1_readInto 35 = .ok (.iinc 2 1, 3) := by decide +kernel
theorem dX1_readInto_38 : decode cX1_readInto 38 = .ok (.aload_n 0, 1) := by decide +kernel
theorem dX1_readInto_39 : decode cX1_readInto 39 = .ok (.iload_n 2, 1) := by decide +kernel
theorem dX1_readInto_40 : decode cX1_readInto 40 = .ok (.bipush 115, 2) := by decide +kernel
theorem dX1_readInto_42 : decode cX1_readInto 42 = .ok (.invokevirtual 32, 3) := by decide +kernel
theorem dX1_readInto_45 : decode cX1_readInto 45 = .ok (.ifCond .eq 26, 3) := by decide +kernel
theorem dX1_readInto_48 : decode cX1_readInto 48 = .ok (.iinc 2 1, 3) := by decide +kernel
theorem dX1_readInto_51 : decode cX1_readInto 51 = .ok (.aload_n 0, 1) := by decide +kernel
theorem dX1_readInto_52 : decode cX1_readInto 52 = .ok (.iload_n 2, 1) := by decide +kernel
theorem dX1_readInto_53 : decode cX1_readInto 53 = .ok (.invokevirtual 24, 3) := by decide +kernel
theorem dX1_readInto_56 : decode cX1_readInto 56 = .ok (.ifCond .ne 5, 3) := by decide +kernel
theorem dX1_readInto_59 : decode cX1_readInto 59 = .ok (.iload_n 2, 1) := by decide +kernel
theorem dX1_readInto_60 : decode cX1_readInto 60 = .ok (.ireturn, 1) := by decide +kernel
theorem dX1_readInto_61 : decode cX1_readInto 61 = .ok (.aload_n 0, 1) := by decide +kernel
theorem dX1_readInto_62 : decode cX1_readInto 62 = .ok (.iload_n 2, 1) := by decide +kernel
theorem dX1_readInto_63 : decode cX1_readInto 63 = .ok (.invokevirtual 28, 3) := by decide +kernel
theorem dX1_readInto_66 : decode cX1_readInto 66 = .ok (.istore 5, 2) := by decide +kernel
theorem dX1_readInto_68 : decode cX1_readInto 68 = .ok (.iinc 2 1, 3) := by decide +kernel
theorem dX1_readInto_71 : decode cX1_readInto 71 = .ok (.aload_n 1, 1) := by decide +kernel
theorem dX1_readInto_72 : decode cX1_readInto 72 = .ok (.iload 4, 2) := by decide +kernel
theorem dX1_readInto_74 : decode cX1_readInto 74 = .ok (.iload 5, 2) := by decide +kernel
theorem dX1_readInto_76 : decode cX1_readInto 76 = .ok (.invokevirtual 36, 3) := by decide +kernel
theorem dX1_readInto_79 : decode cX1_readInto 79 = .ok (.iload_n 2, 1) := by decide +kernel
theorem dX1_readInto_80 : decode cX1_readInto 80 = .ok (.aload_n 0, 1) := by decide +kernel
theorem dX1_readInto_81 : decode cX1_readInto 81 = .ok (.iload_n 2, 1) := by decide +kernel
theorem dX1_readInto_82 : decode cX1_readInto 82 = .ok (.aload_n 1, 1) := by decide +kernel
theorem dX1_readInto_83 : decode cX1_readInto 83 = .ok (.invokevirtual 40, 3) := by decide +kernel
theorem dX1_readInto_86 : decode cX1_readInto 86 = .ok (.iadd, 1) := by decide +kernel
theorem dX1_readInto_87 : decode cX1_readInto 87 = .ok (.istore_n 2, 1) := by decide +kernel
theorem dX1_readInto_88 : decode cX1_readInto 88 = .ok (.iload_n 2, 1) := by decide +kernel
theorem dX1_readInto_89 : decode cX1_readInto 89 = .ok (.aload_n 0, 1) := by decide +kernel
theorem dX1_readInto_90 : decode cX1_readInto 90 = .ok (.getfield 15, 3) := by decide +kernel
theorem dX1_readInto_93 : decode cX1_readInto 93 = .ok (.if_icmp .ne 6, 3) := by decide +kernel
theorem dX1_readInto_96 : decode cX1_readInto 96 = .ok (.bipush (-5), 2) := by decide +kernel
theorem dX1_readInto_98 : decode cX1_readInto 98 = .ok (.ireturn, 1) := by decide +kernel
theorem dX1_readInto_99 : decode cX1_readInto 99 = .ok (.aload_n 0, 1) := by decide +kernel
theorem dX1_readInto_100 : decode cX1_readInto 100 = .ok (.iload_n 2, 1) := by decide +kernel
theorem dX1_readInto_101 : decode cX1_readInto 101 = .ok (.bipush 44, 2) := by decide +kernel
theorem dX1_readInto_103 : decode cX1_readInto 103 = .ok (.invokevirtual 32, 3) := by decide +kernel
theorem dX1_readInto_106 : decode cX1_readInto 106 = .ok (.ifCond .eq 9, 3) := by decide +kernel
theorem dX1_readInto_109 : decode cX1_readInto 109 = .ok (.iload_n 3, 1) := by decide +kernel
theorem dX1_readInto_110 : decode cX1_readInto 110 = .ok (.bipush 29, 2) := by decide +kernel
theorem dX1_readInto_112 : decode cX1_readInto 112 = .ok (.if_icmp .ne 5, 3) := by decide +kernel
theorem dX1_readInto_115 : decode cX1_readInto 115 = .ok (.iload_n 2, 1) := by decide +kernel
theorem dX1_readInto_116 : decode cX1_readInto 116 = .ok (.ireturn, 1) := by decide +kernel
theorem dX1_readInto_117 : decode cX1_readInto 117 = .ok (.iinc 2 1, 3) := by decide +kernel
theorem dX1_readInto_120 : decode cX1_readInto 120 = .ok (.iinc 3 1, 3) := by decide +kernel
theorem dX1_readInto_123 : decode cX1_readInto 123 = .ok (.goto (-114), 3) := by decide +kernel
theorem dX1_readInto_126 : decode cX1_readInto 126 = .ok (.iload_n 2, 1) := by decide +kernel
theorem dX1_readInto_127 : decode cX1_readInto 127 = .ok (.ireturn, 1) := by decide +kernel
set_option maxRecDepth 20000 in
theorem ggX1_readMark_X1_is : GoodIn wsX1_readMark wsX1_is := goodIn_r _ [5, 6, 7, 8, 9, 4, 10, 11, 37, 38] (by decide +kernel) (by decide +kernel)
set_option maxRecDepth 20000 in
theorem gX1_readMark_X1_is : GoodIn wsX1_readMark (wsV RX1 32 RX1 yX1_is wsX1_is) := goodIn_app (goodIn_of _ (by decide +kernel)) ggX1_readMark_X1_is
set_option maxRecDepth 20000 in
theorem ggX1_readMark_X0_printNothingOnLast : GoodIn wsX1_readMark wsX0_printNothingOnLast := goodIn_r _ [16, 17, 18, 19, 20, 15, 21, 22, 23, 24, 25, 26, 27, 28, 29, 30, 31, 32, 39, 40, 41, 42, 43] (by decide +kernel) (by decide +kernel)
set_option maxRecDepth 20000 in
theorem gX1_readMark_X0_printNothingOnLast : GoodIn wsX1_readMark (wsV RX1 44 RX0 yX0_printNothingOnLast wsX0_printNothingOnLast) := goodIn_app (goodIn_of _ (by decide +kernel)) ggX1_readMark_X0_printNothingOnLast
set_option maxRecDepth 20000 in
theorem ggX1_readMark_X0_printTooMuchOnLast : GoodIn wsX1_readMark wsX0_printTooMuchOnLast := goodIn_r _ [36, 17, 18, 19, 20, 15, 21, 22, 23, 24, 25, 26, 27, 28, 29, 30, 31, 32, 39, 40, 41, 42, 43] (by decide +kernel) (by decide +kernel)
set_option maxRecDepth 20000 in
theorem gX1_readMark_X0_printTooMuchOnLast : GoodIn wsX1_readMark (wsV RX1 47 RX0 yX0_printTooMuchOnLast wsX0_printTooMuchOnLast) := goodIn_app (goodIn_of _ (by decide +kernel)) ggX1_readMark_X0_printTooMuchOnLast
theorem dX1_readMark_0 : decode cX1_readMark 0 = .ok (.aload_n 0, 1) := by decide +kernel
theorem dX1_readMark_1 : decode cX1_readMark 1 = .ok (.iload_n 1, 1) := by decide +kernel
theorem dX1_readMark_2 : decode cX1_readMark 2 = .ok (.bipush 42, 2) := by decide +kernel
theorem dX1_readMark_4 : decode cX1_readMark 4 = .ok (.invokevirtual 32, 3) := by decide +kernel
theorem dX1_readMark_7 : decode cX1_readMark 7 = .ok (.ifCond .eq 9, 3) := by decide +kernel
theorem dX1_readMark_10 : decode cX1_readMark 10 = .ok (.aload_n 2, 1) := by decide +kernel
theorem dX1_readMark_11 : decode cX1_readMark 11 = .ok (.invokevirtual 44, 3) := by decide +kernel
theorem dX1_readMark_14 : decode cX1_readMark 14 = .ok (.iconst 1, 1) := by decide +kernel
theorem dX1_readMark_15 : decode cX1_readMark 15 = .ok (.ireturn, 1) := by decide +kernel
theorem dX1_readMark_16 : decode cX1_readMark 16 = .ok (.aload_n 0, 1) := by decide +kernel
theorem dX1_readMark_17 : decode cX1_readMark 17 = .ok (.iload_n 1, 1) := by decide +kernel
theorem dX1_readMark_18 : decode cX1_readMark 18 = .ok (.bipush 33, 2) := by decide +kernel
theorem dX1_readMark_20 : decode cX1_readMark 20 = .ok (.invokevirtual 32, 3) := by decide +kernel
theorem dX1_readMark_23 : decode cX1_readMark 23 = .ok (.ifCond .eq 9, 3) := by decide +kernel
theorem dX1_readMark_26 : decode cX1_readMark 26 = .ok (.aload_n 2, 1) := by decide +kernel
theorem dX1_readMark_27 : decode cX1_readMark 27 = .ok (.invokevirtual 47, 3) := by decide +kernel
theorem dX1_readMark_30 : decode cX1_readMark 30 = .ok (.iconst 1, 1) := by decide +kernel
theorem dX1_readMark_31 : decode cX1_readMark 31 = .ok (.ireturn, 1) := by decide +kernel
theorem dX1_readMark_32 : decode cX1_readMark 32 = .ok (.iconst 0, 1) := by decide +kernel
theorem dX1_readMark_33 : decode cX1_readMark 33 = .ok (.ireturn, 1) := by decide +kernel
theorem dX1_has_0 : decode cX1_has 0 = .ok (.iload_n 1, 1) := by decide +kernel
theorem dX1_has_1 : decode cX1_has 1 = .ok (.ifCond .lt 24, 3) := by decide +kernel
theorem dX1_has_4 : decode cX1_has 4 = .ok (.iload_n 1, 1) := by decide +kernel
theorem dX1_has_5 : decode cX1_has 5 = .ok (.aload_n 0, 1) := by decide +kernel
theorem dX1_has_6 : decode cX1_has 6 = .ok (.getfield 15, 3) := by decide +kernel
theorem dX1_has_9 : decode cX1_has 9 = .ok (.if_icmp .ge 16, 3) := by decide +kernel
theorem dX1_has_12 : decode cX1_has 12 = .ok (.iload_n 1, 1) := by decide +kernel
theorem dX1_has_13 : decode cX1_has 13 = .ok (.aload_n 0, 1) := by decide +kernel
theorem dX1_has_14 : decode cX1_has 14 = .ok (.getfield 9, 3) := by decide +kernel
theorem dX1_has_17 : decode cX1_has 17 = .ok (.arraylength, 1) := by decide +kernel
theorem dX1_has_18 : decode cX1_has 18 = .ok (.if_icmp .ge 7, 3) := by decide +kernel
theorem dX1_has_21 : decode cX1_has 21 = .ok (.iconst 1, 1) := by decide +kernel
theorem dX1_has_22 : decode cX1_has 22 = .ok (.goto 4, 3) := by decide +kernel
theorem dX1_has_25 : decode cX1_has 25 = .ok (.iconst 0, 1) := by decide +kernel
theorem dX1_has_26 : decode cX1_has 26 = .ok (.ireturn, 1) := by decide +kernel
set_option maxRecDepth 20000 in
theorem ggX1_is_X1_has : GoodIn wsX1_is wsX1_has := goodIn_r _ [6, 7, 1, 8, 9] (by decide +kernel) (by decide +kernel)
set_option maxRecDepth 20000 in
theorem gX1_is_X1_has : GoodIn wsX1_is (wsV RX1 50 RX1 yX1_has wsX1_has) := goodIn_app (goodIn_of _ (by decide +kernel)) ggX1_is_X1_has
theorem dX1_is_0 : decode cX1_is 0 = .ok (.aload_n 0, 1) := by decide +kernel
theorem dX1_is_1 : decode cX1_is 1 = .ok (.iload_n 1, 1) := by decide +kernel
theorem dX1_is_2 : decode cX1_is 2 = .ok (.invokevirtual 50, 3) := by decide +kernel
theorem dX1_is_5 : decode cX1_is 5 = .ok (.ifCond .eq 17, 3) := by decide +kernel
theorem dX1_is_8 : decode cX1_is 8 = .ok (.aload_n 0, 1) := by decide +kernel
theorem dX1_is_9 : decode cX1_is 9 = .ok (.getfield 9, 3) := by decide +kernel
theorem dX1_is_12 : decode cX1_is 12 = .ok (.iload_n 1, 1) := by decide +kernel
theorem dX1_is_13 : decode cX1_is 13 = .ok (.caload, 1) := by decide +kernel
theorem dX1_is_14 : decode cX1_is 14 = .ok (.iload_n 2, 1) := by decide +kernel
theorem dX1_is_15 : decode cX1_is 15 = .ok (.if_icmp .ne 7, 3) := by decide +kernel
theorem dX1_is_18 : decode cX1_is 18 = .ok (.iconst 1, 1) := by decide +kernel
theorem dX1_is_19 : decode cX1_is 19 = .ok (.goto 4, 3) := by decide +kernel
theorem dX1_is_22 : decode cX1_is 22 = .ok (.iconst 0, 1) := by decide +kernel
theorem dX1_is_23 : decode cX1_is 23 = .ok (.ireturn, 1) := by decide +kernel
set_option maxRecDepth 20000 in
theorem ggX1_isDigit_X1_has : GoodIn wsX1_isDigit wsX1_has := goodIn_r _ [6, 7, 1, 8, 9] (by decide +kernel) (by decide +kernel)
set_option maxRecDepth 20000 in
theorem gX1_isDigit_X1_has : GoodIn wsX1_isDigit (wsV RX1 50 RX1 yX1_has wsX1_has) := goodIn_app (goodIn_of _ (by decide +kernel)) ggX1_isDigit_X1_has
theorem dX1_isDigit_0 : decode cX1_isDigit 0 = .ok (.aload_n 0, 1) := by decide +kernel
theorem dX1_isDigit_1 : decode cX1_isDigit 1 = .ok (.iload_n 1, 1) := by decide +kernel
theorem dX1_isDigit_2 : decode cX1_isDigit 2 = .ok (.invokevirtual 50, 3) := by decide +kernel
theorem dX1_isDigit_5 : decode cX1_isDigit 5 = .ok (.ifCond .eq 29, 3) := by decide +kernel
theorem dX1_isDigit_8 : decode cX1_isDigit 8 = .ok (.aload_n 0, 1) := by decide +kernel
theorem dX1_isDigit_9 : decode cX1_isDigit 9 = .ok (.getfield 9, 3) := by decide +kernel
theorem dX1_isDigit_12 : decode cX1_isDigit 12 = .ok (.iload_n 1, 1) := by decide +kernel
theorem dX1_isDigit_13 : decode cX1_isDigit 13 = .ok (.caload, 1) := by decide +kernel
theorem dX1_isDigit_14 : decode cX1_isDigit 14 = .ok (.bipush 49, 2) := by decide +kernel
theorem dX1_isDigit_16 : decode cX1_isDigit 16 = .ok (.if_icmp .lt 18, 3) := by decide +kernel
theorem dX1_isDigit_19 : decode cX1_isDigit 19 = .ok (.aload_n 0, 1) := by decide +kernel
theorem dX1_isDigit_20 : decode cX1_isDigit 20 = .ok (.getfield 9, 3) := by decide +kernel
theorem dX1_isDigit_23 : decode cX1_isDigit 23 = .ok (.iload_n 1, 1) := by decide +kernel
theorem dX1_isDigit_24 : decode cX1_isDigit 24 = .ok (.caload, 1) := by decide +kernel
theorem dX1_isDigit_25 : decode cX1_isDigit 25 = .ok (.bipush 57, 2) := by decide +kernel
theorem dX1_isDigit_27 : decode cX1_isDigit 27 = .ok (.if_icmp .gt 7, 3) := by decide +kernel
theorem dX1_isDigit_30 : decode cX1_isDigit 30 = .ok (.iconst 1, 1) := by decide +kernel
theorem dX1_isDigit_31 : decode cX1_isDigit 31 = .ok (.goto 4, 3) := by decide +kernel
theorem dX1_isDigit_34 : decode cX1_isDigit 34 = .ok (.iconst 0, 1) := by decide +kernel
theorem dX1_isDigit_35 : decode cX1_isDigit 35 = .ok (.ireturn, 1) := by decide +kernel
set_option maxRecDepth 20000 in
theorem ggX1_digit_X1_has : GoodIn wsX1_digit wsX1_has := goodIn_r _ [6, 7, 1, 8, 9] (by decide +kernel) (by decide +kernel)
set_option maxRecDepth 20000 in
theorem gX1_digit_X1_has : GoodIn wsX1_digit (wsV RX1 50 RX1 yX1_has wsX1_has) := goodIn_app (goodIn_of _ (by decide +kernel)) ggX1_digit_X1_has
theorem dX1_digit_0 : decode cX1_digit 0 = .ok (.aload_n 0, 1) := by decide +kernel
theorem dX1_digit_1 : decode cX1_digit 1 = .ok (.iload_n 1, 1) := by decide +kernel
theorem dX1_digit_2 : decode cX1_digit 2 = .ok (.invokevirtual 50, 3) := by decide +kernel
theorem dX1_digit_5 : decode cX1_digit 5 = .ok (.ifCond .eq 15, 3) := by decide +kernel
theorem dX1_digit_8 : decode cX1_digit 8 = .ok (.aload_n 0, 1) := by decide +kernel
theorem dX1_digit_9 : decode cX1_digit 9 = .ok (.getfield 9, 3) := by decide +kernel
theorem dX1_digit_12 : decode cX1_digit 12 = .ok (.iload_n 1, 1) := by decide +kernel
theorem dX1_digit_13 : decode cX1_digit 13 = .ok (.caload, 1) := by decide +kernel
theorem dX1_digit_14 : decode cX1_digit 14 = .ok (.bipush 48, 2) := by decide +kernel
theorem dX1_digit_16 : decode cX1_digit 16 = .ok (.isub, 1) := by decide +kernel
theorem dX1_digit_17 : decode cX1_digit 17 = .ok (.goto 4, 3) := by decide +kernel
theorem dX1_digit_20 : decode cX1_digit 20 = .ok (.iconst 0, 1) := by decide +kernel
theorem dX1_digit_21 : decode cX1_digit 21 = .ok (.ireturn, 1) := by decide +kernel
set_option maxRecDepth 20000 in
theorem ggX2_init_X6_init : GoodIn wsX2_init wsX6_init := goodIn_r _ [11, 12, 2, 3, 13, 14, 15, 16, 17, 18, 19, 20, 21, 22, 23, 24, 25, 26, 27, 28, 29, 30, 31, 32, 33, 34, 35, 36, 37, 38, 39, 40, 41, 42, 43, 44, 45, 46, 47, 48, 49, 50, 51, 52, 53, 54, 55, 56, 57, 58, 59, 60, 61, 62, 63, 64, 77, 78, 79, 80, 67, 68, 69, 70, 71, 72, 73, 74, 75, 76, 81, 82, 83, 84, 85, 86] (by decide +kernel) (by decide +kernel)
set_option maxRecDepth 20000 in
theorem gX2_init_X6_init : GoodIn wsX2_init (wsX6_init) := ggX2_init_X6_init
theorem dX2_init_0 : decode cX2_init 0 = .ok (.aload_n 0, 1) := by decide +kernel
theorem dX2_init_1 : decode cX2_init 1 = .ok (.invokespecial 3, 3) := by decide +kernel
theorem dX2_init_4 : decode cX2_init 4 = .ok (.aload_n 0, 1) := by decide +kernel
theorem dX2_init_5 : decode cX2_init 5 = .ok (.iconst 4, 1) := by decide +kernel
theorem dX2_init_6 : decode cX2_init 6 = .ok (.anewarray 9, 3) := by decide +kernel
theorem dX2_init_9 : decode cX2_init 9 = .ok (.putfield 11, 3) := by decide +kernel
theorem dX2_init_12 : decode cX2_init 12 = .ok (.iconst 0, 1) := by decide +kernel
theorem dX2_init_13 : decode cX2_init 13 = .ok (.istore_n 1, 1) := by decide +kernel
theorem dX2_init_14 : decode cX2_init 14 = .ok (.iload_n 1, 1) := by decide +kernel
theorem dX2_init_15 : decode cX2_init 15 = .ok (.aload_n 0, 1) := by decide +kernel
theorem dX2_init_16 : decode cX2_init 16 = .ok (.getfield 11, 3) := by decide +kernel
theorem dX2_init_19 : decode cX2_init 19 = .ok (.arraylength, 1) := by decide +kernel
theorem dX2_init_20 : decode cX2_init 20 = .ok (.if_icmp .ge 22, 3) := by decide +kernel
theorem dX2_init_23 : decode cX2_init 23 = .ok (.aload_n 0, 1) := by decide +kernel
theorem dX2_init_24 : decode cX2_init 24 = .ok (.getfield 11, 3) := by decide +kernel
theorem dX2_init_27 : decode cX2_init 27 = .ok (.iload_n 1, 1) := by decide +kernel
theorem dX2_init_28 : decode cX2_init 28 = .ok (.new 9, 3) := by decide +kernel
theorem dX2_init_31 : decode cX2_init 31 = .ok (.dup, 1) := by decide +kernel
theorem dX2_init_32 : decode cX2_init 32 = .ok (.invokespecial 17, 3) := by decide +kernel
theorem dX2_init_35 : decode cX2_init 35 = .ok (.aastore, 1) := by decide +kernel
theorem dX2_init_36 : decode cX2_init 36 = .ok (.iinc 1 1, 3) := by decide +kernel
theorem dX2_init_39 : decode cX2_init 39 = .ok (.goto (-25), 3) := by decide +kernel
theorem dX2_init_42 : decode cX2_init 42 = .ok (.aload_n 0, 1) := by decide +kernel
theorem dX2_init_43 : decode cX2_init 43 = .ok (.iconst 0, 1) := by decide +kernel
theorem dX2_init_44 : decode cX2_init 44 = .ok (.putfield 18, 3) := by decide +kernel
theorem dX2_init_47 : decode cX2_init 47 = .ok (.return_, 1) := by decide +kernel
set_option maxRecDepth 20000 in
theorem ggX2_record_X2_dropOldest : GoodIn wsX2_record wsX2_dropOldest := goodIn_r _ [7, 2, 1, 58, 59] (by decide +kernel) (by decide +kernel)
set_option maxRecDepth 20000 in
theorem gX2_record_X2_dropOldest : GoodIn wsX2_record (wsV RX2 22 RX2 yX2_dropOldest wsX2_dropOldest) := goodIn_app (goodIn_of _ (by decide +kernel)) ggX2_record_X2_dropOldest
set_option maxRecDepth 20000 in
theorem ggX2_record_X6_copyFrom : GoodIn wsX2_record wsX6_copyFrom := goodIn_r _ [12, 13, 14, 15, 16, 17, 18, 19, 20, 21, 22, 23, 24, 25, 26, 27, 28, 29, 30, 31, 32, 33, 34, 35, 36, 37, 38, 39, 40, 41, 42, 43, 44, 45, 46, 47, 48, 49, 50, 51, 52, 53, 54, 55, 56, 57, 60, 61, 62, 63, 64, 65, 66, 67, 68, 69, 70, 71, 72, 73, 74, 75, 76, 77, 78, 79] (by decide +kernel) (by decide +kernel)
set_option maxRecDepth 20000 in
theorem gX2_record_X6_copyFrom : GoodIn wsX2_record (wsV RX2 25 RX6 yX6_copyFrom wsX6_copyFrom) := goodIn_app (goodIn_of _ (by decide +kernel)) ggX2_record_X6_copyFrom
theorem dX2_record_0 : decode cX2_record 0 = .ok (.aload_n 0, 1) := by decide +kernel
theorem dX2_record_1 : decode cX2_record 1 = .ok (.getfield 18, 3) := by decide +kernel
theorem dX2_record_4 : decode cX2_record 4 = .ok (.aload_n 0, 1) := by decide +kernel
theorem dX2_record_5 : decode cX2_record 5 = .ok (.getfield 11, 3) := by decide +kernel
theorem dX2_record_8 : decode cX2_record 8 = .ok (.arraylength, 1) := by decide +kernel
theorem dX2_record_9 : decode cX2_record 9 = .ok (.if_icmp .lt 7, 3) := by decide +kernel
theorem dX2_record_12 : decode cX2_record 12 = .ok (.aload_n 0, 1) := by decide +kernel
theorem dX2_record_13 : decode cX2_record 13 = .ok (.invokevirtual 22, 3) := by decide +kernel
theorem dX2_record_16 : decode cX2_record 16 = .ok (.aload_n 0, 1) := by decide +kernel
theorem dX2_record_17 : decode cX2_record 17 = .ok (.getfield 18, 3) := by decide +kernel
theorem dX2_record_20 : decode cX2_record 20 = .ok (.ifCond .lt 27, 3) := by decide +kernel
theorem dX2_record_23 : decode cX2_record 23 = .ok (.aload_n 0, 1) := by decide +kernel
theorem dX2_record_24 : decode cX2_record 24 = .ok (.getfield 18, 3) := by decide +kernel
theorem dX2_record_27 : decode cX2_record 27 = .ok (.aload_n 0, 1) := by decide +kernel
theorem dX2_record_28 : decode cX2_record 28 = .ok (.getfield 11, 3) := by decide +kernel
theorem dX2_record_31 : decode cX2_record 31 = .ok (.arraylength, 1) := by decide +kernel
theorem dX2_record_32 : decode cX2_record 32 = .ok (.if_icmp .ge 15, 3) := by decide +kernel
theorem dX2_record_35 : decode cX2_record 35 = .ok (.aload_n 0, 1) := by decide +kernel
theorem dX2_record_36 : decode cX2_record 36 = .ok (.getfield 11, 3) := by decide +kernel
theorem dX2_record_39 : decode cX2_record 39 = .ok (.aload_n 0, 1) := by decide +kernel
theorem dX2_record_40 : decode cX2_record 40 = .ok (.getfield 18, 3) := by decide +kernel
theorem dX2_record_43 : decode cX2_record 43 = .ok (.aaload, 1) := by decide +kernel
theorem dX2_record_44 : decode cX2_record 44 = .ok (.ifnonnull 4, 3) := by decide +kernel
theorem dX2_record_47 : decode cX2_record 47 = .ok (.return_, 1) := by decide +kernel
theorem dX2_record_48 : decode cX2_record 48 = .ok (.aload_n 0, 1) := by decide +kernel
theorem dX2_record_49 : decode cX2_record 49 = .ok (.getfield 11, 3) := by decide +kernel
theorem dX2_record_52 : decode cX2_record 52 = .ok (.aload_n 0, 1) := by decide +kernel
theorem dX2_record_53 : decode cX2_record 53 = .ok (.getfield 18, 3) := by decide +kernel
theorem dX2_record_56 : decode cX2_record 56 = .ok (.aaload, 1) := by decide +kernel
theorem dX2_record_57 : decode cX2_record 57 = .ok (.aload_n 1, 1) := by decide +kernel
theorem dX2_record_58 : decode cX2_record 58 = .ok (.invokevirtual 25, 3) := by decide +kernel
theorem dX2_record_61 : decode cX2_record 61 = .ok (.aload_n 0, 1) := by decide +kernel
theorem dX2_record_62 : decode cX2_record 62 = .ok (.dup, 1) := by decide +kernel
theorem dX2_record_63 : decode cX2_record 63 = .ok (.getfield 18, 3) := by decide +kernel
theorem dX2_record_66 : decode cX2_record 66 = .ok (.iconst 1, 1) := by decide +kernel
theorem dX2_record_67 : decode cX2_record 67 = .ok (.iadd, 1) := by decide +kernel
theorem dX2_record_68 : decode cX2_record 68 = .ok (.putfield 18, 3) := by decide +kernel
theorem dX2_record_71 : decode cX2_record 71 = .ok (.return_, 1) := by decide +kernel
set_option maxRecDepth 20000 in
theorem ggX2_takeLatestInto_X6_copyFrom : GoodIn wsX2_takeLatestInto wsX6_copyFrom := goodIn_r _ [7, 8, 9, 10, 11, 12, 13, 14, 15, 16, 17, 18, 19, 20, 21, 22, 23, 24, 25, 26, 27, 28, 29, 30, 31, 32, 33, 34, 35, 36, 37, 38, 39, 40, 41, 42, 43, 44, 45, 46, 47, 48, 49, 50, 51, 52, 55, 56, 57, 58, 59, 60, 61, 62, 63, 64, 65, 66, 67, 68, 69, 70, 71, 72, 73, 74] (by decide +kernel) (by decide +kernel)
set_option maxRecDepth 20000 in
theorem gX2_takeLatestInto_X6_copyFrom : GoodIn wsX2_takeLatestInto (wsV RX2 25 RX6 yX6_copyFrom wsX6_copyFrom) := goodIn_app (goodIn_of _ (by decide +kernel)) ggX2_takeLatestInto_X6_copyFrom
theorem dX2_takeLatestInto_0 : decode cX2_takeLatestInto 0 = .ok (.aload_n 0, 1) := by decide +kernel
theorem dX2_takeLatestInto_1 : decode cX2_takeLatestInto 1 = .ok (.getfield 18, 3) := by decide +kernel
theorem dX2_takeLatestInto_4 : decode cX2_takeLatestInto 4 = .ok (.iconst 1, 1) := by decide +kernel
theorem dX2_takeLatestInto_5 : decode cX2_takeLatestInto 5 = .ok (.isub, 1) := by decide +kernel
theorem dX2_takeLatestInto_6 : decode cX2_takeLatestInto 6 = .ok (.istore_n 2, 1) := by decide +kernel
theorem dX2_takeLatestInto_7 : decode cX2_takeLatestInto 7 = .ok (.iload_n 2, 1) := by decide +kernel
theorem dX2_takeLatestInto_8 : decode cX2_takeLatestInto 8 = .ok (.ifCond .lt 21, 3) := by decide +kernel
theorem dX2_takeLatestInto_11 : decode cX2_takeLatestInto 11 = .ok (.iload_n 2, 1) := by decide +kernel
theorem dX2_takeLatestInto_12 : decode cX2_takeLatestInto 12 = .ok (.aload_n 0, 1) := by decide +kernel
theorem dX2_takeLatestInto_13 : decode cX2_takeLatestInto 13 = .ok (.getfield 11, 3) := by decide +kernel
theorem dX2_takeLatestInto_16 : decode cX2_takeLatestInto 16 = .ok (.arraylength, 1) := by decide +kernel
theorem dX2_takeLatestInto_17 : decode cX2_takeLatestInto 17 = .ok (.if_icmp .ge 12, 3) := by decide +kernel
theorem dX2_takeLatestInto_20 : decode cX2_takeLatestInto 20 = .ok (.aload_n 0, 1) := by decide +kernel
theorem dX2_takeLatestInto_21 : decode cX2_takeLatestInto 21 = .ok (.getfield 11, 3) := by decide +kernel
theorem dX2_takeLatestInto_24 : decode cX2_takeLatestInto 24 = .ok (.iload_n 2, 1) := by decide +kernel
theorem dX2_takeLatestInto_25 : decode cX2_takeLatestInto 25 = .ok (.aaload, 1) := by decide +kernel
theorem dX2_takeLatestInto_26 : decode cX2_takeLatestInto 26 = .ok (.ifnonnull 4, 3) := by decide +kernel
theorem dX2_takeLatestInto_29 : decode cX2_takeLatestInto 29 = .ok (.return_, 1) := by decide +kernel
theorem dX2_takeLatestInto_30 : decode cX2_takeLatestInto 30 = .ok (.aload_n 1, 1) := by decide +kernel
theorem dX2_takeLatestInto_31 : decode cX2_takeLatestInto 31 = .ok (.aload_n 0, 1) := by decide +kernel
theorem dX2_takeLatestInto_32 : decode cX2_takeLatestInto 32 = .ok (.getfield 11, 3) := by decide +kernel
theorem dX2_takeLatestInto_35 : decode cX2_takeLatestInto 35 = .ok (.iload_n 2, 1) := by decide +kernel
theorem dX2_takeLatestInto_36 : decode cX2_takeLatestInto 36 = .ok (.aaload, 1) := by decide +kernel
theorem dX2_takeLatestInto_37 : decode cX2_takeLatestInto 37 = .ok (.invokevirtual 25, 3) := by decide +kernel
theorem dX2_takeLatestInto_40 : decode cX2_takeLatestInto 40 = .ok (.aload_n 0, 1) := by decide +kernel
theorem dX2_takeLatestInto_41 : decode cX2_takeLatestInto 41 = .ok (.iload_n 2, 1) := by decide +kernel
theorem dX2_takeLatestInto_42 : decode cX2_takeLatestInto 42 = .ok (.putfield 18, 3) := by decide +kernel
theorem dX2_takeLatestInto_45 : decode cX2_takeLatestInto 45 = .ok (.return_, 1) := by decide +kernel
theorem dX2_dropOldest_0 : decode cX2_dropOldest 0 = .ok (.aload_n 0, 1) := by decide +kernel
theorem dX2_dropOldest_1 : decode cX2_dropOldest 1 = .ok (.getfield 11, 3) := by decide +kernel
theorem dX2_dropOldest_4 : decode cX2_dropOldest 4 = .ok (.arraylength, 1) := by decide +kernel
theorem dX2_dropOldest_5 : decode cX2_dropOldest 5 = .ok (.ifCond .ne 4, 3) := by decide +kernel
theorem dX2_dropOldest_8 : decode cX2_dropOldest 8 = .ok (.return_, 1) := by decide +kernel
theorem dX2_dropOldest_9 : decode cX2_dropOldest 9 = .ok (.aload_n 0, 1) := by decide +kernel
theorem dX2_dropOldest_10 : decode cX2_dropOldest 10 = .ok (.getfield 11, 3) := by decide +kernel
theorem dX2_dropOldest_13 : decode cX2_dropOldest 13 = .ok (.iconst 0, 1) := by decide +kernel
theorem dX2_dropOldest_14 : decode cX2_dropOldest 14 = .ok (.aaload, 1) := by decide +kernel
theorem dX2_dropOldest_15 : decode cX2_dropOldest 15 = .ok (.astore_n 1, 1) := by decide +kernel
theorem dX2_dropOldest_16 : decode cX2_dropOldest 16 = .ok (.iconst 1, 1) := by decide +kernel
theorem dX2_dropOldest_17 : decode cX2_dropOldest 17 = .ok (.istore_n 2, 1) := by decide +kernel
theorem dX2_dropOldest_18 : decode cX2_dropOldest 18 = .ok (.iload_n 2, 1) := by decide +kernel
theorem dX2_dropOldest_19 : decode cX2_dropOldest 19 = .ok (.aload_n 0, 1) := by decide +kernel
theorem dX2_dropOldest_20 : decode cX2_dropOldest 20 = .ok (.getfield 11, 3) := by decide +kernel
theorem dX2_dropOldest_23 : decode cX2_dropOldest 23 = .ok (.arraylength, 1) := by decide +kernel
theorem dX2_dropOldest_24 : decode cX2_dropOldest 24 = .ok (.if_icmp .ge 23, 3) := by decide +kernel
theorem dX2_dropOldest_27 : decode cX2_dropOldest 27 = .ok (.aload_n 0, 1) := by decide +kernel
theorem dX2_dropOldest_28 : decode cX2_dropOldest 28 = .ok (.getfield 11, 3) := by decide +kernel
theorem dX2_dropOldest_31 : decode cX2_dropOldest 31 = .ok (.iload_n 2, 1) := by decide +kernel
theorem dX2_dropOldest_32 : decode cX2_dropOldest 32 = .ok (.iconst 1, 1) := by decide +kernel
theorem dX2_dropOldest_33 : decode cX2_dropOldest 33 = .ok (.isub, 1) := by decide +kernel
theorem dX2_dropOldest_34 : decode cX2_dropOldest 34 = .ok (.aload_n 0, 1) := by decide +kernel
theorem dX2_dropOldest_35 : decode cX2_dropOldest 35 = .ok (.getfield 11, 3) := by decide +kernel
theorem dX2_dropOldest_38 : decode cX2_dropOldest 38 = .ok (.iload_n 2, 1) := by decide +kernel
theorem dX2_dropOldest_39 : decode cX2_dropOldest 39 = .ok (.aaload, 1) := by decide +kernel
theorem dX2_dropOldest_40 : decode cX2_dropOldest 40 = .ok (.aastore, 1) := by decide +kernel
theorem dX2_dropOldest_41 : decode cX2_dropOldest 41 = .ok (.iinc 2 1, 3) := by decide +kernel
theorem dX2_dropOldest_44 : decode cX2_dropOldest 44 = .ok (.goto (-26), 3) := by decide +kernel
theorem dX2_dropOldest_47 : decode cX2_dropOldest 47 = .ok (.aload_n 0, 1) := by decide +kernel
theorem dX2_dropOldest_48 : decode cX2_dropOldest 48 = .ok (.getfield 11, 3) := by decide +kernel
theorem dX2_dropOldest_51 : decode cX2_dropOldest 51 = .ok (.aload_n 0, 1) := by decide +kernel
theorem dX2_dropOldest_52 : decode cX2_dropOldest 52 = .ok (.getfield 11, 3) := by decide +kernel
theorem dX2_dropOldest_55 : decode cX2_dropOldest 55 = .ok (.arraylength, 1) := by decide +kernel
theorem dX2_dropOldest_56 : decode cX2_dropOldest 56 = .ok (.iconst 1, 1) := by decide +kernel
theorem dX2_dropOldest_57 : decode cX2_dropOldest 57 = .ok (.isub, 1) := by decide +kernel
theorem dX2_dropOldest_58 : decode cX2_dropOldest 58 = .ok (.aload_n 1, 1) := by decide +kernel
theorem dX2_dropOldest_59 : decode cX2_dropOldest 59 = .ok (.aastore, 1) := by decide +kernel
theorem dX2_dropOldest_60 : decode cX2_dropOldest 60 = .ok (.aload_n 0, 1) := by decide +kernel
theorem dX2_dropOldest_61 : decode cX2_dropOldest 61 = .ok (.aload_n 0, 1) := by decide +kernel
theorem dX2_dropOldest_62 : decode cX2_dropOldest 62 = .ok (.getfield 11, 3) := by decide +kernel
theorem dX2_dropOldest_65 : decode cX2_dropOldest 65 = .ok (.arraylength, 1) := by decide +kernel
theorem dX2_dropOldest_66 : decode cX2_dropOldest 66 = .ok (.iconst 1, 1) := by decide +kernel
theorem dX2_dropOldest_67 : decode cX2_dropOldest 67 = .ok (.isub, 1) := by decide +kernel
theorem dX2_dropOldest_68 : decode cX2_dropOldest 68 = .ok (.putfield 18, 3) := by decide +kernel
theorem dX2_dropOldest_71 : decode cX2_dropOldest 71 = .ok (.return_, 1) := by decide +kernel
theorem dX3_init_0 : decode cX3_init 0 = .ok (.aload_n 0, 1) := by decide +kernel
theorem dX3_init_1 : decode cX3_init 1 = .ok (.invokespecial 3, 3) := by decide +kernel
theorem dX3_init_4 : decode cX3_init 4 = .ok (.aload_n 0, 1) := by decide +kernel
theorem dX3_init_5 : decode cX3_init 5 = .ok (.iload_n 1, 1) := by decide +kernel
theorem dX3_init_6 : decode cX3_init 6 = .ok (.iconst 0, 1) := by decide +kernel
theorem dX3_init_7 : decode cX3_init 7 = .ok (.invokestatic 9, 3) := by decide +kernel
theorem dX3_init_10 : decode cX3_init 10 = .ok (.newarray .int, 2) := by decide +kernel
theorem dX3_init_12 : decode cX3_init 12 = .ok (.putfield 15, 3) := by decide +kernel
theorem dX3_init_15 : decode cX3_init 15 = .ok (.return_, 1) := by decide +kernel
theorem dX3_has_0 : decode cX3_has 0 = .ok (.iload_n 1, 1) := by decide +kernel
theorem dX3_has_1 : decode cX3_has 1 = .ok (.ifCond .lt 16, 3) := by decide +kernel
theorem dX3_has_4 : decode cX3_has 4 = .ok (.iload_n 1, 1) := by decide +kernel
theorem dX3_has_5 : decode cX3_has 5 = .ok (.aload_n 0, 1) := by decide +kernel
theorem dX3_has_6 : decode cX3_has 6 = .ok (.getfield 15, 3) := by decide +kernel
theorem dX3_has_9 : decode cX3_has 9 = .ok (.arraylength, 1) := by decide +kernel
theorem dX3_has_10 : decode cX3_has 10 = .ok (.if_icmp .ge 7, 3) := by decide +kernel
theorem dX3_has_13 : decode cX3_has 13 = .ok (.iconst 1, 1) := by decide +kernel
theorem dX3_has_14 : decode cX3_has 14 = .ok (.goto 4, 3) := by decide +kernel
theorem dX3_has_17 : decode cX3_has 17 = .ok (.iconst 0, 1) := by decide +kernel
theorem dX3_has_18 : decode cX3_has 18 = .ok (.ireturn, 1) := by decide +kernel
set_option maxRecDepth 20000 in
theorem ggX3_at_X3_has : GoodIn wsX3_at wsX3_has := goodIn_r _ [6, 1, 7] (by decide +kernel) (by decide +kernel)
set_option maxRecDepth 20000 in
theorem gX3_at_X3_has : GoodIn wsX3_at (wsV RX3 21 RX3 yX3_has wsX3_has) := goodIn_app (goodIn_of _ (by decide +kernel)) ggX3_at_X3_has
theorem dX3_at_0 : decode cX3_at 0 = .ok (.aload_n 0, 1) := by decide +kernel
theorem dX3_at_1 : decode cX3_at 1 = .ok (.iload_n 1, 1) := by decide +kernel
theorem dX3_at_2 : decode cX3_at 2 = .ok (.invokevirtual 21, 3) := by decide +kernel
theorem dX3_at_5 : decode cX3_at 5 = .ok (.ifCond .eq 12, 3) := by decide +kernel
theorem dX3_at_8 : decode cX3_at 8 = .ok (.aload_n 0, 1) := by decide +kernel
theorem dX3_at_9 : decode cX3_at 9 = .ok (.getfield 15, 3) := by decide +kernel
theorem dX3_at_12 : decode cX3_at 12 = .ok (.iload_n 1, 1) := by decide +kernel
theorem dX3_at_13 : decode cX3_at 13 = .ok (.iaload, 1) := by decide +kernel
theorem dX3_at_14 : decode cX3_at 14 = .ok (.goto 5, 3) := by decide +kernel
theorem dX3_at_17 : decode cX3_at 17 = .ok (.bipush (-5), 2) := by decide +kernel
theorem dX3_at_19 : decode cX3_at 19 = .ok (.ireturn, 1) := by decide +kernel
set_option maxRecDepth 20000 in
theorem ggX3_put_X3_has : GoodIn wsX3_put wsX3_has := goodIn_r _ [6, 1, 7] (by decide +kernel) (by decide +kernel)
set_option maxRecDepth 20000 in
theorem gX3_put_X3_has : GoodIn wsX3_put (wsV RX3 21 RX3 yX3_has wsX3_has) := goodIn_app (goodIn_of _ (by decide +kernel)) ggX3_put_X3_has
theorem dX3_put_0 : decode cX3_put 0 = .ok (.aload_n 0, 1) := by decide +kernel
theorem dX3_put_1 : decode cX3_put 1 = .ok (.iload_n 1, 1) := by decide +kernel
theorem dX3_put_2 : decode cX3_put 2 = .ok (.invokevirtual 21, 3) := by decide +kernel
theorem dX3_put_5 : decode cX3_put 5 = .ok (.ifCond .eq 10, 3) := by decide +kernel
theorem dX3_put_8 : decode cX3_put 8 = .ok (.aload_n 0, 1) := by decide +kernel
theorem dX3_put_9 : decode cX3_put 9 = .ok (.getfield 15, 3) := by decide +kernel
theorem dX3_put_12 : decode cX3_put 12 = .ok (.iload_n 1, 1) := by decide +kernel
theorem dX3_put_13 : decode cX3_put 13 = .ok (.iload_n 2, 1) := by decide +kernel
theorem dX3_put_14 : decode cX3_put 14 = .ok (.iastore, 1) := by decide +kernel
theorem dX3_put_15 : decode cX3_put 15 = .ok (.return_, 1) := by decide +kernel
set_option maxRecDepth 20000 in
theorem ggX3_putAll_J7_fill_53178 : GoodIn wsX3_putAll wsJ7_fill_53178 := goodIn_r _ [5] (by decide +kernel) (by decide +kernel)
set_option maxRecDepth 20000 in
theorem gX3_putAll_J7_fill_53178 : GoodIn wsX3_putAll (va_wsS RX3 25 yJ7_fill_53178 wsJ7_fill_53178) := goodIn_app (goodIn_of _ (by decide +kernel)) ggX3_putAll_J7_fill_53178
theorem dX3_putAll_0 : decode cX3_putAll 0 = .ok (.aload_n 0, 1) := by decide +kernel
theorem dX3_putAll_1 : decode cX3_putAll 1 = .ok (.getfield 15, 3) := by decide +kernel
theorem dX3_putAll_4 : decode cX3_putAll 4 = .ok (.iload_n 1, 1) := by decide +kernel
theorem dX3_putAll_5 : decode cX3_putAll 5 = .ok (.invokestatic 25, 3) := by decide +kernel
theorem dX3_putAll_8 : decode cX3_putAll 8 = .ok (.return_, 1) := by decide +kernel
set_option maxRecDepth 20000 in
theorem ggX3_removeAt_X3_has : GoodIn wsX3_removeAt wsX3_has := goodIn_r _ [10, 1, 11] (by decide +kernel) (by decide +kernel)
set_option maxRecDepth 20000 in
theorem gX3_removeAt_X3_has : GoodIn wsX3_removeAt (wsV RX3 21 RX3 yX3_has wsX3_has) := goodIn_app (goodIn_of _ (by decide +kernel)) ggX3_removeAt_X3_has
theorem dX3_removeAt_0 : decode cX3_removeAt 0 = .ok (.aload_n 0, 1) := by decide +kernel
theorem dX3_removeAt_1 : decode cX3_removeAt 1 = .ok (.iload_n 1, 1) := by decide +kernel
theorem dX3_removeAt_2 : decode cX3_removeAt 2 = .ok (.invokevirtual 21, 3) := by decide +kernel
theorem dX3_removeAt_5 : decode cX3_removeAt 5 = .ok (.ifCond .eq 27, 3) := by decide +kernel
theorem dX3_removeAt_8 : decode cX3_removeAt 8 = .ok (.aload_n 0, 1) := by decide +kernel
theorem dX3_removeAt_9 : decode cX3_removeAt 9 = .ok (.getfield 15, 3) := by decide +kernel
theorem dX3_removeAt_12 : decode cX3_removeAt 12 = .ok (.iload_n 1, 1) := by decide +kernel
theorem dX3_removeAt_13 : decode cX3_removeAt 13 = .ok (.iconst 1, 1) := by decide +kernel
theorem dX3_removeAt_14 : decode cX3_removeAt 14 = .ok (.iadd, 1) := by decide +kernel
theorem dX3_removeAt_15 : decode cX3_removeAt 15 = .ok (.aload_n 0, 1) := by decide +kernel
theorem dX3_removeAt_16 : decode cX3_removeAt 16 = .ok (.getfield 15, 3) := by decide +kernel
theorem dX3_removeAt_19 : decode cX3_removeAt 19 = .ok (.iload_n 1, 1) := by decide +kernel
theorem dX3_removeAt_20 : decode cX3_removeAt 20 = .ok (.aload_n 0, 1) := by decide +kernel
theorem dX3_removeAt_21 : decode cX3_removeAt 21 = .ok (.getfield 15, 3) := by decide +kernel
theorem dX3_removeAt_24 : decode cX3_removeAt 24 = .ok (.arraylength, 1) := by decide +kernel
theorem dX3_removeAt_25 : decode cX3_removeAt 25 = .ok (.iconst 1, 1) := by decide +kernel
theorem dX3_removeAt_26 : decode cX3_removeAt 26 = .ok (.isub, 1) := by decide +kernel
theorem dX3_removeAt_27 : decode cX3_removeAt 27 = .ok (.iload_n 1, 1) := by decide +kernel
theorem dX3_removeAt_28 : decode cX3_removeAt 28 = .ok (.isub, 1) := by decide +kernel
theorem dX3_removeAt_29 : decode cX3_removeAt 29 = .ok (.invokestatic 31, 3) := by decide +kernel
theorem dX3_removeAt_32 : decode cX3_removeAt 32 = .ok (.return_, 1) := by decide +kernel
theorem dX3_copyFrom_0 : decode cX3_copyFrom 0 = .ok (.aload_n 1, 1) := by decide +kernel
theorem dX3_copyFrom_1 : decode cX3_copyFrom 1 = .ok (.getfield 15, 3) := by decide +kernel
theorem dX3_copyFrom_4 : decode cX3_copyFrom 4 = .ok (.iconst 0, 1) := by decide +kernel
theorem dX3_copyFrom_5 : decode cX3_copyFrom 5 = .ok (.aload_n 0, 1) := by decide +kernel
theorem dX3_copyFrom_6 : decode cX3_copyFrom 6 = .ok (.getfield 15, 3) := by decide +kernel
theorem dX3_copyFrom_9 : decode cX3_copyFrom 9 = .ok (.iconst 0, 1) := by decide +kernel
theorem dX3_copyFrom_10 : decode cX3_copyFrom 10 = .ok (.aload_n 1, 1) := by decide +kernel
theorem dX3_copyFrom_11 : decode cX3_copyFrom 11 = .ok (.getfield 15, 3) := by decide +kernel
theorem dX3_copyFrom_14 : decode cX3_copyFrom 14 = .ok (.arraylength, 1) := by decide +kernel
theorem dX3_copyFrom_15 : decode cX3_copyFrom 15 = .ok (.aload_n 0, 1) := by decide +kernel
theorem dX3_copyFrom_16 : decode cX3_copyFrom 16 = .ok (.getfield 15, 3) := by decide +kernel
theorem dX3_copyFrom_19 : decode cX3_copyFrom 19 = .ok (.arraylength, 1) := by decide +kernel
theorem dX3_copyFrom_20 : decode cX3_copyFrom 20 = .ok (.invokestatic 37, 3) := by decide +kernel
theorem dX3_copyFrom_23 : decode cX3_copyFrom 23 = .ok (.invokestatic 31, 3) := by decide +kernel
theorem dX3_copyFrom_26 : decode cX3_copyFrom 26 = .ok (.return_, 1) := by decide +kernel
set_option maxRecDepth 20000 in
theorem ggX4_init_X3_init : GoodIn wsX4_init wsX3_init := goodIn_r _ [11, 12, 2, 3, 13, 14, 15, 16, 17, 18, 19] (by decide +kernel) (by decide +kernel)
set_option maxRecDepth 20000 in
theorem gX4_init_X3_init : GoodIn wsX4_init (wsX3_init) := ggX4_init_X3_init
theorem dX4_init_0 : decode cX4_init 0 = .ok (.aload_n 0, 1) := by decide +kernel
theorem dX4_init_1 : decode cX4_init 1 = .ok (.invokespecial 3, 3) := by decide +kernel
theorem dX4_init_4 : decode cX4_init 4 = .ok (.aload_n 0, 1) := by decide +kernel
theorem dX4_init_5 : decode cX4_init 5 = .ok (.new 9, 3) := by decide +kernel
theorem dX4_init_8 : decode cX4_init 8 = .ok (.dup, 1) := by decide +kernel
theorem dX4_init_9 : decode cX4_init 9 = .ok (.bipush 80, 2) := by decide +kernel
theorem dX4_init_11 : decode cX4_init 11 = .ok (.invokespecial 11, 3) := by decide +kernel
theorem dX4_init_14 : decode cX4_init 14 = .ok (.putfield 14, 3) := by decide +kernel
theorem dX4_init_17 : decode cX4_init 17 = .ok (.aload_n 0, 1) := by decide +kernel
theorem dX4_init_18 : decode cX4_init 18 = .ok (.new 9, 3) := by decide +kernel
theorem dX4_init_21 : decode cX4_init 21 = .ok (.dup, 1) := by decide +kernel
theorem dX4_init_22 : decode cX4_init 22 = .ok (.bipush 60, 2) := by decide +kernel
theorem dX4_init_24 : decode cX4_init 24 = .ok (.invokespecial 11, 3) := by decide +kernel
theorem dX4_init_27 : decode cX4_init 27 = .ok (.putfield 20, 3) := by decide +kernel
theorem dX4_init_30 : decode cX4_init 30 = .ok (.return_, 1) := by decide +kernel
set_option maxRecDepth 20000 in
theorem ggX4_makeFor_X0_pages : GoodIn wsX4_makeFor wsX0_pages := goodIn_r _ [9, 10, 73, 74, 75, 76] (by decide +kernel) (by decide +kernel)
set_option maxRecDepth 20000 in
theorem gX4_makeFor_X0_pages : GoodIn wsX4_makeFor (wsV RX4 41 RX0 yX0_pages wsX0_pages) := goodIn_app (goodIn_of _ (by decide +kernel)) ggX4_makeFor_X0_pages
set_option maxRecDepth 20000 in
theorem ggX4_makeFor_X3_putAll : GoodIn wsX4_makeFor wsX3_putAll := goodIn_r _ [15, 16, 17, 18, 19, 20, 77] (by decide +kernel) (by decide +kernel)
set_option maxRecDepth 20000 in
theorem gX4_makeFor_X3_putAll : GoodIn wsX4_makeFor (wsV RX4 49 RX3 yX3_putAll wsX3_putAll) := goodIn_app (goodIn_of _ (by decide +kernel)) ggX4_makeFor_X3_putAll
set_option maxRecDepth 20000 in
theorem ggX4_makeFor_X4_guessOf : GoodIn wsX4_makeFor wsX4_guessOf := goodIn_r _ [25, 26, 27, 28, 14, 29, 16, 30, 31, 32, 33, 34, 35, 36, 37, 38, 39, 40, 41, 42, 43, 8, 44, 45, 6, 7, 9, 10, 54, 55, 56, 57, 58, 59, 60, 61, 62, 63, 64, 65, 66, 67, 68, 77, 73, 74, 75, 76] (by decide +kernel) (by decide +kernel)
set_option maxRecDepth 20000 in
theorem gX4_makeFor_X4_guessOf : GoodIn wsX4_makeFor (wsV RX4 52 RX4 yX4_guessOf wsX4_guessOf) := goodIn_app (goodIn_of _ (by decide +kernel)) ggX4_makeFor_X4_guessOf
set_option maxRecDepth 20000 in
theorem ggX4_makeFor_X3_put : GoodIn wsX4_makeFor wsX3_put := goodIn_r _ [49, 16, 30, 31, 32, 14, 33, 77] (by decide +kernel) (by decide +kernel)
set_option maxRecDepth 20000 in
theorem gX4_makeFor_X3_put : GoodIn wsX4_makeFor (wsV RX4 56 RX3 yX3_put wsX3_put) := goodIn_app (goodIn_of _ (by decide +kernel)) ggX4_makeFor_X3_put
set_option maxRecDepth 20000 in
theorem ggX4_makeFor_X4_choose : GoodIn wsX4_makeFor wsX4_choose := goodIn_r _ [53, 3, 26, 27, 28, 14, 29, 16, 30, 31, 32, 33, 34, 35, 36, 37, 38, 39, 40, 46, 47, 48, 49, 69, 70, 71, 72, 77, 64, 65, 66, 67, 68] (by decide +kernel) (by decide +kernel)
set_option maxRecDepth 20000 in
theorem gX4_makeFor_X4_choose : GoodIn wsX4_makeFor (wsV RX4 60 RX4 yX4_choose wsX4_choose) := goodIn_app (goodIn_of _ (by decide +kernel)) ggX4_makeFor_X4_choose
theorem dX4_makeFor_0 : decode cX4_makeFor 0 = .ok (.aload_n 0, 1) := by decide +kernel
theorem dX4_makeFor_1 : decode cX4_makeFor 1 = .ok (.aload_n 1, 1) := by decide +kernel
theorem dX4_makeFor_2 : decode cX4_makeFor 2 = .ok (.getfield 23, 3) := by decide +kernel
theorem dX4_makeFor_5 : decode cX4_makeFor 5 = .ok (.getfield 29, 3) := by decide +kernel
theorem dX4_makeFor_8 : decode cX4_makeFor 8 = .ok (.putfield 35, 3) := by decide +kernel
theorem dX4_makeFor_11 : decode cX4_makeFor 11 = .ok (.aload_n 0, 1) := by decide +kernel
theorem dX4_makeFor_12 : decode cX4_makeFor 12 = .ok (.aload_n 1, 1) := by decide +kernel
theorem dX4_makeFor_13 : decode cX4_makeFor 13 = .ok (.getfield 37, 3) := by decide +kernel
theorem dX4_makeFor_16 : decode cX4_makeFor 16 = .ok (.invokevirtual 41, 3) := by decide +kernel
theorem dX4_makeFor_19 : decode cX4_makeFor 19 = .ok (.putfield 47, 3) := by decide +kernel
theorem dX4_makeFor_22 : decode cX4_makeFor 22 = .ok (.aload_n 0, 1) := by decide +kernel
theorem dX4_makeFor_23 : decode cX4_makeFor 23 = .ok (.getfield 20, 3) := by decide +kernel
theorem dX4_makeFor_26 : decode cX4_makeFor 26 = .ok (.bipush (-5), 2) := by decide +kernel
theorem dX4_makeFor_28 : decode cX4_makeFor 28 = .ok (.invokevirtual 49, 3) := by decide +kernel
theorem dX4_makeFor_31 : decode cX4_makeFor 31 = .ok (.bipush (-5), 2) := by decide +kernel
theorem dX4_makeFor_33 : decode cX4_makeFor 33 = .ok (.istore_n 2, 1) := by decide +kernel
theorem dX4_makeFor_34 : decode cX4_makeFor 34 = .ok (.iconst 0, 1) := by decide +kernel
theorem dX4_makeFor_35 : decode cX4_makeFor 35 = .ok (.istore_n 3, 1) := by decide +kernel
theorem dX4_makeFor_36 : decode cX4_makeFor 36 = .ok (.iload_n 3, 1) := by decide +kernel
theorem dX4_makeFor_37 : decode cX4_makeFor 37 = .ok (.aload_n 0, 1) := by decide +kernel
theorem dX4_makeFor_38 : decode cX4_makeFor 38 = .ok (.getfield 35, 3) := by decide +kernel
theorem dX4_makeFor_41 : decode cX4_makeFor 41 = .ok (.if_icmp .ge 49, 3) := by decide +kernel
theorem dX4_makeFor_44 : decode cX4_makeFor 44 = .ok (.aload_n 0, 1) := by decide +kernel
theorem dX4_makeFor_45 : decode cX4_makeFor 45 = .ok (.iload_n 3, 1) := by decide +kernel
theorem dX4_makeFor_46 : decode cX4_makeFor 46 = .ok (.iload_n 2, 1) := by decide +kernel
theorem dX4_makeFor_47 : decode cX4_makeFor 47 = .ok (.aload_n 1, 1) := by decide +kernel
theorem dX4_makeFor_48 : decode cX4_makeFor 48 = .ok (.invokevirtual 52, 3) := by decide +kernel
theorem dX4_makeFor_51 : decode cX4_makeFor 51 = .ok (.istore 4, 2) := by decide +kernel
theorem dX4_makeFor_53 : decode cX4_makeFor 53 = .ok (.aload_n 0, 1) := by decide +kernel
theorem dX4_makeFor_54 : decode cX4_makeFor 54 = .ok (.getfield 14, 3) := by decide +kernel
theorem dX4_makeFor_57 : decode cX4_makeFor 57 = .ok (.iload_n 3, 1) := by decide +kernel
theorem dX4_makeFor_58 : decode cX4_makeFor 58 = .ok (.iload 4, 2) := by decide +kernel
theorem dX4_makeFor_60 : decode cX4_makeFor 60 = .ok (.invokevirtual 56, 3) := by decide +kernel
theorem dX4_makeFor_63 : decode cX4_makeFor 63 = .ok (.iload 4, 2) := by decide +kernel
theorem dX4_makeFor_65 : decode cX4_makeFor 65 = .ok (.bipush (-5), 2) := by decide +kernel
theorem dX4_makeFor_67 : decode cX4_makeFor 67 = .ok (.if_icmp .eq 14, 3) := by decide +kernel
theorem dX4_makeFor_70 : decode cX4_makeFor 70 = .ok (.aload_n 0, 1) := by decide +kernel
theorem dX4_makeFor_71 : decode cX4_makeFor 71 = .ok (.iload_n 3, 1) := by decide +kernel
theorem dX4_makeFor_72 : decode cX4_makeFor 72 = .ok (.iload 4, 2) := by decide +kernel
theorem dX4_makeFor_74 : decode cX4_makeFor 74 = .ok (.aload_n 1, 1) := by decide +kernel
theorem dX4_makeFor_75 : decode cX4_makeFor 75 = .ok (.getfield 23, 3) := by decide +kernel
theorem dX4_makeFor_78 : decode cX4_makeFor 78 = .ok (.invokevirtual 60, 3) := by decide +kernel
theorem dX4_makeFor_81 : decode cX4_makeFor 81 = .ok (.iload 4, 2) := by decide +kernel
theorem dX4_makeFor_83 : decode cX4_makeFor 83 = .ok (.istore_n 2, 1) := by decide +kernel
theorem dX4_makeFor_84 : decode cX4_makeFor 84 = .ok (.iinc 3 1, 3) := by decide +kernel
theorem dX4_makeFor_87 : decode cX4_makeFor 87 = .ok (.goto (-51), 3) := by decide +kernel
theorem dX4_makeFor_90 : decode cX4_makeFor 90 = .ok (.return_, 1) := by decide +kernel
set_option maxRecDepth 20000 in
theorem ggX4_guessOf_X3_at : GoodIn wsX4_guessOf wsX3_at := goodIn_r _ [5, 6, 7, 8, 9, 4, 10, 43] (by decide +kernel) (by decide +kernel)
set_option maxRecDepth 20000 in
theorem gX4_guessOf_X3_at : GoodIn wsX4_guessOf (wsV RX4 67 RX3 yX3_at wsX3_at) := goodIn_app (goodIn_of _ (by decide +kernel)) ggX4_guessOf_X3_at
set_option maxRecDepth 20000 in
theorem ggX4_guessOf_X5_isGood : GoodIn wsX4_guessOf wsX5_isGood := goodIn_r _ [15, 16, 17, 2, 3, 4, 5, 6, 7, 8, 9, 10, 38, 39, 40, 41, 42, 43] (by decide +kernel) (by decide +kernel)
set_option maxRecDepth 20000 in
theorem gX4_guessOf_X5_isGood : GoodIn wsX4_guessOf (wsV RX4 71 RX5 yX5_isGood wsX5_isGood) := goodIn_app (goodIn_of _ (by decide +kernel)) ggX4_guessOf_X5_isGood
set_option maxRecDepth 20000 in
theorem ggX4_guessOf_X0_hasPage : GoodIn wsX4_guessOf wsX0_hasPage := goodIn_r _ [22, 23, 24, 25, 21, 26, 27, 44, 45, 46, 47] (by decide +kernel) (by decide +kernel)
set_option maxRecDepth 20000 in
theorem gX4_guessOf_X0_hasPage : GoodIn wsX4_guessOf (wsV RX4 78 RX0 yX0_hasPage wsX0_hasPage) := goodIn_app (goodIn_of _ (by decide +kernel)) ggX4_guessOf_X0_hasPage
theorem dX4_guessOf_0 : decode cX4_guessOf 0 = .ok (.aload_n 3, 1) := by decide +kernel
theorem dX4_guessOf_1 : decode cX4_guessOf 1 = .ok (.getfield 23, 3) := by decide +kernel
theorem dX4_guessOf_4 : decode cX4_guessOf 4 = .ok (.getfield 64, 3) := by decide +kernel
theorem dX4_guessOf_7 : decode cX4_guessOf 7 = .ok (.iload_n 1, 1) := by decide +kernel
theorem dX4_guessOf_8 : decode cX4_guessOf 8 = .ok (.invokevirtual 67, 3) := by decide +kernel
theorem dX4_guessOf_11 : decode cX4_guessOf 11 = .ok (.istore 4, 2) := by decide +kernel
theorem dX4_guessOf_13 : decode cX4_guessOf 13 = .ok (.iload 4, 2) := by decide +kernel
theorem dX4_guessOf_15 : decode cX4_guessOf 15 = .ok (.bipush (-5), 2) := by decide +kernel
theorem dX4_guessOf_17 : decode cX4_guessOf 17 = .ok (.if_icmp .eq 42, 3) := by decide +kernel
theorem dX4_guessOf_20 : decode cX4_guessOf 20 = .ok (.aload_n 3, 1) := by decide +kernel
theorem dX4_guessOf_21 : decode cX4_guessOf 21 = .ok (.getfield 23, 3) := by decide +kernel
theorem dX4_guessOf_24 : decode cX4_guessOf 24 = .ok (.iload_n 1, 1) := by decide +kernel
theorem dX4_guessOf_25 : decode cX4_guessOf 25 = .ok (.invokevirtual 71, 3) := by decide +kernel
theorem dX4_guessOf_28 : decode cX4_guessOf 28 = .ok (.ifCond .eq 31, 3) := by decide +kernel
theorem dX4_guessOf_31 : decode cX4_guessOf 31 = .ok (.iload 4, 2) := by decide +kernel
theorem dX4_guessOf_33 : decode cX4_guessOf 33 = .ok (.aload_n 3, 1) := by decide +kernel
theorem dX4_guessOf_34 : decode cX4_guessOf 34 = .ok (.getfield 75, 3) := by decide +kernel
theorem dX4_guessOf_37 : decode cX4_guessOf 37 = .ok (.iconst 2, 1) := by decide +kernel
theorem dX4_guessOf_38 : decode cX4_guessOf 38 = .ok (.invokevirtual 67, 3) := by decide +kernel
theorem dX4_guessOf_41 : decode cX4_guessOf 41 = .ok (.isub, 1) := by decide +kernel
theorem dX4_guessOf_42 : decode cX4_guessOf 42 = .ok (.istore 5, 2) := by decide +kernel
theorem dX4_guessOf_44 : decode cX4_guessOf 44 = .ok (.aload_n 3, 1) := by decide +kernel
theorem dX4_guessOf_45 : decode cX4_guessOf 45 = .ok (.getfield 37, 3) := by decide +kernel
theorem dX4_guessOf_48 : decode cX4_guessOf 48 = .ok (.iload 5, 2) := by decide +kernel
theorem dX4_guessOf_50 : decode cX4_guessOf 50 = .ok (.invokevirtual 78, 3) := by decide +kernel
theorem dX4_guessOf_53 : decode cX4_guessOf 53 = .ok (.ifCond .eq 6, 3) := by decide +kernel
theorem dX4_guessOf_56 : decode cX4_guessOf 56 = .ok (.iload 5, 2) := by decide +kernel
theorem dX4_guessOf_58 : decode cX4_guessOf 58 = .ok (.ireturn, 1) := by decide +kernel
theorem dX4_guessOf_59 : decode cX4_guessOf 59 = .ok (.iload_n 2, 1) := by decide +kernel
theorem dX4_guessOf_60 : decode cX4_guessOf 60 = .ok (.bipush (-5), 2) := by decide +kernel
theorem dX4_guessOf_62 : decode cX4_guessOf 62 = .ok (.if_icmp .eq 20, 3) := by decide +kernel
theorem dX4_guessOf_65 : decode cX4_guessOf 65 = .ok (.aload_n 3, 1) := by decide +kernel
theorem dX4_guessOf_66 : decode cX4_guessOf 66 = .ok (.getfield 37, 3) := by decide +kernel
theorem dX4_guessOf_69 : decode cX4_guessOf 69 = .ok (.iload_n 2, 1) := by decide +kernel
theorem dX4_guessOf_70 : decode cX4_guessOf 70 = .ok (.iconst 1, 1) := by decide +kernel
theorem dX4_guessOf_71 : decode cX4_guessOf 71 = .ok (.iadd, 1) := by decide +kernel
theorem dX4_guessOf_72 : decode cX4_guessOf 72 = .ok (.invokevirtual 78, 3) := by decide +kernel
theorem dX4_guessOf_75 : decode cX4_guessOf 75 = .ok (.ifCond .eq 7, 3) := by decide +kernel
theorem dX4_guessOf_78 : decode cX4_guessOf 78 = .ok (.iload_n 2, 1) := by decide +kernel
theorem dX4_guessOf_79 : decode cX4_guessOf 79 = .ok (.iconst 1, 1) := by decide +kernel
theorem dX4_guessOf_80 : decode cX4_guessOf 80 = .ok (.iadd, 1) := by decide +kernel
theorem dX4_guessOf_81 : decode cX4_guessOf 81 = .ok (.ireturn, 1) := by decide +kernel
theorem dX4_guessOf_82 : decode cX4_guessOf 82 = .ok (.bipush (-5), 2) := by decide +kernel
theorem dX4_guessOf_84 : decode cX4_guessOf 84 = .ok (.ireturn, 1) := by decide +kernel
set_option maxRecDepth 20000 in
theorem ggX4_choose_X3_at : GoodIn wsX4_choose wsX3_at := goodIn_r _ [6, 7, 8, 9, 10, 5, 11, 27] (by decide +kernel) (by decide +kernel)
set_option maxRecDepth 20000 in
theorem gX4_choose_X3_at : GoodIn wsX4_choose (wsV RX4 67 RX3 yX3_at wsX3_at) := goodIn_app (goodIn_of _ (by decide +kernel)) ggX4_choose_X3_at
set_option maxRecDepth 20000 in
theorem ggX4_choose_X5_isGood : GoodIn wsX4_choose wsX5_isGood := goodIn_r _ [16, 17, 18, 3, 4, 5, 6, 7, 8, 9, 10, 11, 28, 29, 30, 31, 32, 27] (by decide +kernel) (by decide +kernel)
set_option maxRecDepth 20000 in
theorem gX4_choose_X5_isGood : GoodIn wsX4_choose (wsV RX4 71 RX5 yX5_isGood wsX5_isGood) := goodIn_app (goodIn_of _ (by decide +kernel)) ggX4_choose_X5_isGood
set_option maxRecDepth 20000 in
theorem ggX4_choose_X3_put : GoodIn wsX4_choose wsX3_put := goodIn_r _ [22, 7, 8, 9, 10, 5, 11, 27] (by decide +kernel) (by decide +kernel)
set_option maxRecDepth 20000 in
theorem gX4_choose_X3_put : GoodIn wsX4_choose (wsV RX4 56 RX3 yX3_put wsX3_put) := goodIn_app (goodIn_of _ (by decide +kernel)) ggX4_choose_X3_put
theorem dX4_choose_0 : decode cX4_choose 0 = .ok (.aload_n 0, 1) := by decide +kernel
theorem dX4_choose_1 : decode cX4_choose 1 = .ok (.getfield 20, 3) := by decide +kernel
theorem dX4_choose_4 : decode cX4_choose 4 = .ok (.iload_n 2, 1) := by decide +kernel
theorem dX4_choose_5 : decode cX4_choose 5 = .ok (.invokevirtual 67, 3) := by decide +kernel
theorem dX4_choose_8 : decode cX4_choose 8 = .ok (.istore 4, 2) := by decide +kernel
theorem dX4_choose_10 : decode cX4_choose 10 = .ok (.iload 4, 2) := by decide +kernel
theorem dX4_choose_12 : decode cX4_choose 12 = .ok (.bipush (-5), 2) := by decide +kernel
theorem dX4_choose_14 : decode cX4_choose 14 = .ok (.if_icmp .eq 20, 3) := by decide +kernel
theorem dX4_choose_17 : decode cX4_choose 17 = .ok (.aload_n 3, 1) := by decide +kernel
theorem dX4_choose_18 : decode cX4_choose 18 = .ok (.iload 4, 2) := by decide +kernel
theorem dX4_choose_20 : decode cX4_choose 20 = .ok (.invokevirtual 71, 3) := by decide +kernel
theorem dX4_choose_23 : decode cX4_choose 23 = .ok (.ifCond .ne 20, 3) := by decide +kernel
theorem dX4_choose_26 : decode cX4_choose 26 = .ok (.aload_n 3, 1) := by decide +kernel
theorem dX4_choose_27 : decode cX4_choose 27 = .ok (.iload_n 1, 1) := by decide +kernel
theorem dX4_choose_28 : decode cX4_choose 28 = .ok (.invokevirtual 71, 3) := by decide +kernel
theorem dX4_choose_31 : decode cX4_choose 31 = .ok (.ifCond .eq 12, 3) := by decide +kernel
theorem dX4_choose_34 : decode cX4_choose 34 = .ok (.aload_n 0, 1) := by decide +kernel
theorem dX4_choose_35 : decode cX4_choose 35 = .ok (.getfield 20, 3) := by decide +kernel
theorem dX4_choose_38 : decode cX4_choose 38 = .ok (.iload_n 2, 1) := by decide +kernel
theorem dX4_choose_39 : decode cX4_choose 39 = .ok (.iload_n 1, 1) := by decide +kernel
theorem dX4_choose_40 : decode cX4_choose 40 = .ok (.invokevirtual 56, 3) := by decide +kernel
theorem dX4_choose_43 : decode cX4_choose 43 = .ok (.return_, 1) := by decide +kernel
set_option maxRecDepth 20000 in
theorem ggX4_isSpare_X3_at : GoodIn wsX4_isSpare wsX3_at := goodIn_r _ [7, 8, 9, 10, 11, 6, 12, 17] (by decide +kernel) (by decide +kernel)
set_option maxRecDepth 20000 in
theorem gX4_isSpare_X3_at : GoodIn wsX4_isSpare (wsV RX4 67 RX3 yX3_at wsX3_at) := goodIn_app (goodIn_of _ (by decide +kernel)) ggX4_isSpare_X3_at
theorem dX4_isSpare_0 : decode cX4_isSpare 0 = .ok (.aload_n 0, 1) := by decide +kernel
theorem dX4_isSpare_1 : decode cX4_isSpare 1 = .ok (.getfield 14, 3) := by decide +kernel
theorem dX4_isSpare_4 : decode cX4_isSpare 4 = .ok (.iload_n 1, 1) := by decide +kernel
theorem dX4_isSpare_5 : decode cX4_isSpare 5 = .ok (.invokevirtual 67, 3) := by decide +kernel
theorem dX4_isSpare_8 : decode cX4_isSpare 8 = .ok (.istore_n 2, 1) := by decide +kernel
theorem dX4_isSpare_9 : decode cX4_isSpare 9 = .ok (.iload_n 2, 1) := by decide +kernel
theorem dX4_isSpare_10 : decode cX4_isSpare 10 = .ok (.bipush (-5), 2) := by decide +kernel
theorem dX4_isSpare_12 : decode cX4_isSpare 12 = .ok (.if_icmp .eq 15, 3) := by decide +kernel
theorem dX4_isSpare_15 : decode cX4_isSpare 15 = .ok (.aload_n 0, 1) := by decide +kernel
theorem dX4_isSpare_16 : decode cX4_isSpare 16 = .ok (.getfield 20, 3) := by decide +kernel
theorem dX4_isSpare_19 : decode cX4_isSpare 19 = .ok (.iload_n 2, 1) := by decide +kernel
theorem dX4_isSpare_20 : decode cX4_isSpare 20 = .ok (.invokevirtual 67, 3) := by decide +kernel
theorem dX4_isSpare_23 : decode cX4_isSpare 23 = .ok (.iload_n 1, 1) := by decide +kernel
theorem dX4_isSpare_24 : decode cX4_isSpare 24 = .ok (.if_icmp .eq 7, 3) := by decide +kernel
theorem dX4_isSpare_27 : decode cX4_isSpare 27 = .ok (.iconst 1, 1) := by decide +kernel
theorem dX4_isSpare_28 : decode cX4_isSpare 28 = .ok (.goto 4, 3) := by decide +kernel
theorem dX4_isSpare_31 : decode cX4_isSpare 31 = .ok (.iconst 0, 1) := by decide +kernel
theorem dX4_isSpare_32 : decode cX4_isSpare 32 = .ok (.ireturn, 1) := by decide +kernel
set_option maxRecDepth 20000 in
theorem ggX4_isDoubtful_X3_at : GoodIn wsX4_isDoubtful wsX3_at := goodIn_r _ [6, 7, 8, 9, 10, 5, 11, 21] (by decide +kernel) (by decide +kernel)
set_option maxRecDepth 20000 in
theorem gX4_isDoubtful_X3_at : GoodIn wsX4_isDoubtful (wsV RX4 67 RX3 yX3_at wsX3_at) := goodIn_app (goodIn_of _ (by decide +kernel)) ggX4_isDoubtful_X3_at
theorem dX4_isDoubtful_0 : decode cX4_isDoubtful 0 = .ok (.aload_n 0, 1) := by decide +kernel
theorem dX4_isDoubtful_1 : decode cX4_isDoubtful 1 = .ok (.getfield 20, 3) := by decide +kernel
theorem dX4_isDoubtful_4 : decode cX4_isDoubtful 4 = .ok (.iload_n 1, 1) := by decide +kernel
theorem dX4_isDoubtful_5 : decode cX4_isDoubtful 5 = .ok (.invokevirtual 67, 3) := by decide +kernel
theorem dX4_isDoubtful_8 : decode cX4_isDoubtful 8 = .ok (.istore_n 3, 1) := by decide +kernel
theorem dX4_isDoubtful_9 : decode cX4_isDoubtful 9 = .ok (.iload_n 3, 1) := by decide +kernel
theorem dX4_isDoubtful_10 : decode cX4_isDoubtful 10 = .ok (.bipush (-5), 2) := by decide +kernel
theorem dX4_isDoubtful_12 : decode cX4_isDoubtful 12 = .ok (.if_icmp .eq 19, 3) := by decide +kernel
theorem dX4_isDoubtful_15 : decode cX4_isDoubtful 15 = .ok (.aload_n 2, 1) := by decide +kernel
theorem dX4_isDoubtful_16 : decode cX4_isDoubtful 16 = .ok (.getfield 81, 3) := by decide +kernel
theorem dX4_isDoubtful_19 : decode cX4_isDoubtful 19 = .ok (.iload_n 3, 1) := by decide +kernel
theorem dX4_isDoubtful_20 : decode cX4_isDoubtful 20 = .ok (.invokevirtual 67, 3) := by decide +kernel
theorem dX4_isDoubtful_23 : decode cX4_isDoubtful 23 = .ok (.iload_n 1, 1) := by decide +kernel
theorem dX4_isDoubtful_24 : decode cX4_isDoubtful 24 = .ok (.if_icmp .eq 7, 3) := by decide +kernel
theorem dX4_isDoubtful_27 : decode cX4_isDoubtful 27 = .ok (.iconst 1, 1) := by decide +kernel
theorem dX4_isDoubtful_28 : decode cX4_isDoubtful 28 = .ok (.goto 4, 3) := by decide +kernel
theorem dX4_isDoubtful_31 : decode cX4_isDoubtful 31 = .ok (.iconst 0, 1) := by decide +kernel
theorem dX4_isDoubtful_32 : decode cX4_isDoubtful 32 = .ok (.ireturn, 1) := by decide +kernel
set_option maxRecDepth 20000 in
theorem ggX4_lackingAt_X3_at : GoodIn wsX4_lackingAt wsX3_at := goodIn_r _ [7, 8, 9, 10, 11, 6, 12, 17] (by decide +kernel) (by decide +kernel)
set_option maxRecDepth 20000 in
theorem gX4_lackingAt_X3_at : GoodIn wsX4_lackingAt (wsV RX4 67 RX3 yX3_at wsX3_at) := goodIn_app (goodIn_of _ (by decide +kernel)) ggX4_lackingAt_X3_at
theorem dX4_lackingAt_0 : decode cX4_lackingAt 0 = .ok (.iconst 0, 1) := by decide +kernel
theorem dX4_lackingAt_1 : decode cX4_lackingAt 1 = .ok (.istore_n 2, 1) := by decide +kernel
theorem dX4_lackingAt_2 : decode cX4_lackingAt 2 = .ok (.iconst 0, 1) := by decide +kernel
theorem dX4_lackingAt_3 : decode cX4_lackingAt 3 = .ok (.istore_n 3, 1) := by decide +kernel
theorem dX4_lackingAt_4 : decode cX4_lackingAt 4 = .ok (.iload_n 3, 1) := by decide +kernel
theorem dX4_lackingAt_5 : decode cX4_lackingAt 5 = .ok (.aload_n 0, 1) := by decide +kernel
theorem dX4_lackingAt_6 : decode cX4_lackingAt 6 = .ok (.getfield 47, 3) := by decide +kernel
theorem dX4_lackingAt_9 : decode cX4_lackingAt 9 = .ok (.if_icmp .ge 32, 3) := by decide +kernel
theorem dX4_lackingAt_12 : decode cX4_lackingAt 12 = .ok (.aload_n 0, 1) := by decide +kernel
theorem dX4_lackingAt_13 : decode cX4_lackingAt 13 = .ok (.getfield 20, 3) := by decide +kernel
theorem dX4_lackingAt_16 : decode cX4_lackingAt 16 = .ok (.iload_n 3, 1) := by decide +kernel
theorem dX4_lackingAt_17 : decode cX4_lackingAt 17 = .ok (.invokevirtual 67, 3) := by decide +kernel
theorem dX4_lackingAt_20 : decode cX4_lackingAt 20 = .ok (.bipush (-5), 2) := by decide +kernel
theorem dX4_lackingAt_22 : decode cX4_lackingAt 22 = .ok (.if_icmp .ne 13, 3) := by decide +kernel
theorem dX4_lackingAt_25 : decode cX4_lackingAt 25 = .ok (.iload_n 2, 1) := by decide +kernel
theorem dX4_lackingAt_26 : decode cX4_lackingAt 26 = .ok (.iload_n 1, 1) := by decide +kernel
theorem dX4_lackingAt_27 : decode cX4_lackingAt 27 = .ok (.if_icmp .ne 5, 3) := by decide +kernel
theorem dX4_lackingAt_30 : decode cX4_lackingAt 30 = .ok (.iload_n 3, 1) := by decide +kernel
theorem dX4_lackingAt_31 : decode cX4_lackingAt 31 = .ok (.ireturn, 1) := by decide +kernel
theorem dX4_lackingAt_32 : decode cX4_lackingAt 32 = .ok (.iinc 2 1, 3) := by decide +kernel
theorem dX4_lackingAt_35 : decode cX4_lackingAt 35 = .ok (.iinc 3 1, 3) := by decide +kernel
theorem dX4_lackingAt_38 : decode cX4_lackingAt 38 = .ok (.goto (-34), 3) := by decide +kernel
theorem dX4_lackingAt_41 : decode cX4_lackingAt 41 = .ok (.bipush (-5), 2) := by decide +kernel
theorem dX4_lackingAt_43 : decode cX4_lackingAt 43 = .ok (.ireturn, 1) := by decide +kernel
set_option maxRecDepth 20000 in
theorem ggX4_howManyLack_X3_at : GoodIn wsX4_howManyLack wsX3_at := goodIn_r _ [7, 8, 9, 10, 11, 6, 12, 17] (by decide +kernel) (by decide +kernel)
set_option maxRecDepth 20000 in
theorem gX4_howManyLack_X3_at : GoodIn wsX4_howManyLack (wsV RX4 67 RX3 yX3_at wsX3_at) := goodIn_app (goodIn_of _ (by decide +kernel)) ggX4_howManyLack_X3_at
theorem dX4_howManyLack_0 : decode cX4_howManyLack 0 = .ok (.iconst 0, 1) := by decide +kernel
theorem dX4_howManyLack_1 : decode cX4_howManyLack 1 = .ok (.istore_n 1, 1) := by decide +kernel
theorem dX4_howManyLack_2 : decode cX4_howManyLack 2 = .ok (.iconst 0, 1) := by decide +kernel
theorem dX4_howManyLack_3 : decode cX4_howManyLack 3 = .ok (.istore_n 2, 1) := by decide +kernel
theorem dX4_howManyLack_4 : decode cX4_howManyLack 4 = .ok (.iload_n 2, 1) := by decide +kernel
theorem dX4_howManyLack_5 : decode cX4_howManyLack 5 = .ok (.aload_n 0, 1) := by decide +kernel
theorem dX4_howManyLack_6 : decode cX4_howManyLack 6 = .ok (.getfield 47, 3) := by decide +kernel
theorem dX4_howManyLack_9 : decode cX4_howManyLack 9 = .ok (.if_icmp .ge 25, 3) := by decide +kernel
theorem dX4_howManyLack_12 : decode cX4_howManyLack 12 = .ok (.aload_n 0, 1) := by decide +kernel
theorem dX4_howManyLack_13 : decode cX4_howManyLack 13 = .ok (.getfield 20, 3) := by decide +kernel
theorem dX4_howManyLack_16 : decode cX4_howManyLack 16 = .ok (.iload_n 2, 1) := by decide +kernel
theorem dX4_howManyLack_17 : decode cX4_howManyLack 17 = .ok (.invokevirtual 67, 3) := by decide +kernel
theorem dX4_howManyLack_20 : decode cX4_howManyLack 20 = .ok (.bipush (-5), 2) := by decide +kernel
theorem dX4_howManyLack_22 : decode cX4_howManyLack 22 = .ok (.if_icmp .ne 6, 3) := by decide +kernel
theorem dX4_howManyLack_25 : decode cX4_howManyLack 25 = .ok (.iinc 1 1, 3) := by decide +kernel
theorem dX4_howManyLack_28 : decode cX4_howManyLack 28 = .ok (.iinc 2 1, 3) := by decide +kernel
theorem dX4_howManyLack_31 : decode cX4_howManyLack 31 = .ok (.goto (-27), 3) := by decide +kernel
theorem dX4_howManyLack_34 : decode cX4_howManyLack 34 = .ok (.iload_n 1, 1) := by decide +kernel
theorem dX4_howManyLack_35 : decode cX4_howManyLack 35 = .ok (.ireturn, 1) := by decide +kernel
set_option maxRecDepth 20000 in
theorem ggX4_howManyDoubtful_X4_isDoubtful : GoodIn wsX4_howManyDoubtful wsX4_isDoubtful := goodIn_r _ [6, 7, 8, 9, 10, 11, 12, 13, 14, 15, 16, 17, 18, 19, 20, 21, 22, 23, 24, 25, 26, 27] (by decide +kernel) (by decide +kernel)
set_option maxRecDepth 20000 in
theorem gX4_howManyDoubtful_X4_isDoubtful : GoodIn wsX4_howManyDoubtful (wsV RX4 83 RX4 yX4_isDoubtful wsX4_isDoubtful) := goodIn_app (goodIn_of _ (by decide +kernel)) ggX4_howManyDoubtful_X4_isDoubtful
theorem dX4_howManyDoubtful_0 : decode cX4_howManyDoubtful 0 = .ok (.iconst 0, 1) := by decide +kernel
theorem dX4_howManyDoubtful_1 : decode cX4_howManyDoubtful 1 = .ok (.istore_n 2, 1) := by decide +kernel
theorem dX4_howManyDoubtful_2 : decode cX4_howManyDoubtful 2 = .ok (.iconst 0, 1) := by decide +kernel
theorem dX4_howManyDoubtful_3 : decode cX4_howManyDoubtful 3 = .ok (.istore_n 3, 1) := by decide +kernel
theorem dX4_howManyDoubtful_4 : decode cX4_howManyDoubtful 4 = .ok (.iload_n 3, 1) := by decide +kernel
theorem dX4_howManyDoubtful_5 : decode cX4_howManyDoubtful 5 = .ok (.aload_n 0, 1) := by decide +kernel
theorem dX4_howManyDoubtful_6 : decode cX4_howManyDoubtful 6 = .ok (.getfield 47, 3) := by decide +kernel
theorem dX4_howManyDoubtful_9 : decode cX4_howManyDoubtful 9 = .ok (.if_icmp .ge 21, 3) := by decide +kernel
theorem dX4_howManyDoubtful_12 : decode cX4_howManyDoubtful 12 = .ok (.aload_n 0, 1) := by decide +kernel
theorem dX4_howManyDoubtful_13 : decode cX4_howManyDoubtful 13 = .ok (.iload_n 3, 1) := by decide +kernel
theorem dX4_howManyDoubtful_14 : decode cX4_howManyDoubtful 14 = .ok (.aload_n 1, 1) := by decide +kernel
theorem dX4_howManyDoubtful_15 : decode cX4_howManyDoubtful 15 = .ok (.invokevirtual 83, 3) := by decide +kernel
theorem dX4_howManyDoubtful_18 : decode cX4_howManyDoubtful 18 = .ok (.ifCond .eq 6, 3) := by decide +kernel
theorem dX4_howManyDoubtful_21 : decode cX4_howManyDoubtful 21 = .ok (.iinc 2 1, 3) := by decide +kernel
theorem dX4_howManyDoubtful_24 : decode cX4_howManyDoubtful 24 = .ok (.iinc 3 1, 3) := by decide +kernel
theorem dX4_howManyDoubtful_27 : decode cX4_howManyDoubtful 27 = .ok (.goto (-23), 3) := by decide +kernel
theorem dX4_howManyDoubtful_30 : decode cX4_howManyDoubtful 30 = .ok (.iload_n 2, 1) := by decide +kernel
theorem dX4_howManyDoubtful_31 : decode cX4_howManyDoubtful 31 = .ok (.ireturn, 1) := by decide +kernel
set_option maxRecDepth 20000 in
theorem ggX4_howManySpare_X4_isSpare : GoodIn wsX4_howManySpare wsX4_isSpare := goodIn_r _ [6, 7, 8, 9, 10, 11, 12, 13, 14, 15, 16, 17, 18, 19, 20, 21, 22, 23] (by decide +kernel) (by decide +kernel)
set_option maxRecDepth 20000 in
theorem gX4_howManySpare_X4_isSpare : GoodIn wsX4_howManySpare (wsV RX4 87 RX4 yX4_isSpare wsX4_isSpare) := goodIn_app (goodIn_of _ (by decide +kernel)) ggX4_howManySpare_X4_isSpare
theorem dX4_howManySpare_0 : decode cX4_howManySpare 0 = .ok (.iconst 0, 1) := by decide +kernel
theorem dX4_howManySpare_1 : decode cX4_howManySpare 1 = .ok (.istore_n 1, 1) := by decide +kernel
theorem dX4_howManySpare_2 : decode cX4_howManySpare 2 = .ok (.iconst 0, 1) := by decide +kernel
theorem dX4_howManySpare_3 : decode cX4_howManySpare 3 = .ok (.istore_n 2, 1) := by decide +kernel
theorem dX4_howManySpare_4 : decode cX4_howManySpare 4 = .ok (.iload_n 2, 1) := by decide +kernel
theorem dX4_howManySpare_5 : decode cX4_howManySpare 5 = .ok (.aload_n 0, 1) := by decide +kernel
theorem dX4_howManySpare_6 : decode cX4_howManySpare 6 = .ok (.getfield 35, 3) := by decide +kernel
theorem dX4_howManySpare_9 : decode cX4_howManySpare 9 = .ok (.if_icmp .ge 20, 3) := by decide +kernel
theorem dX4_howManySpare_12 : decode cX4_howManySpare 12 = .ok (.aload_n 0, 1) := by decide +kernel
theorem dX4_howManySpare_13 : decode cX4_howManySpare 13 = .ok (.iload_n 2, 1) := by decide +kernel
theorem dX4_howManySpare_14 : decode cX4_howManySpare 14 = .ok (.invokevirtual 87, 3) := by decide +kernel
theorem dX4_howManySpare_17 : decode cX4_howManySpare 17 = .ok (.ifCond .eq 6, 3) := by decide +kernel
theorem dX4_howManySpare_20 : decode cX4_howManySpare 20 = .ok (.iinc 1 1, 3) := by decide +kernel
theorem dX4_howManySpare_23 : decode cX4_howManySpare 23 = .ok (.iinc 2 1, 3) := by decide +kernel
theorem dX4_howManySpare_26 : decode cX4_howManySpare 26 = .ok (.goto (-22), 3) := by decide +kernel
theorem dX4_howManySpare_29 : decode cX4_howManySpare 29 = .ok (.iload_n 1, 1) := by decide +kernel
theorem dX4_howManySpare_30 : decode cX4_howManySpare 30 = .ok (.ireturn, 1) := by decide +kernel
set_option maxRecDepth 20000 in
theorem ggX4_howManyNotGuessed_X3_at : GoodIn wsX4_howManyNotGuessed wsX3_at := goodIn_r _ [7, 8, 9, 10, 11, 6, 12, 17] (by decide +kernel) (by decide +kernel)
set_option maxRecDepth 20000 in
theorem gX4_howManyNotGuessed_X3_at : GoodIn wsX4_howManyNotGuessed (wsV RX4 67 RX3 yX3_at wsX3_at) := goodIn_app (goodIn_of _ (by decide +kernel)) ggX4_howManyNotGuessed_X3_at
theorem dX4_howManyNotGuessed_0 : decode cX4_howManyNotGuessed 0 = .ok (.iconst 0, 1) := by decide +kernel
theorem dX4_howManyNotGuessed_1 : decode cX4_howManyNotGuessed 1 = .ok (.istore_n 1, 1) := by decide +kernel
theorem dX4_howManyNotGuessed_2 : decode cX4_howManyNotGuessed 2 = .ok (.iconst 0, 1) := by decide +kernel
theorem dX4_howManyNotGuessed_3 : decode cX4_howManyNotGuessed 3 = .ok (.istore_n 2, 1) := by decide +kernel
theorem dX4_howManyNotGuessed_4 : decode cX4_howManyNotGuessed 4 = .ok (.iload_n 2, 1) := by decide +kernel
theorem dX4_howManyNotGuessed_5 : decode cX4_howManyNotGuessed 5 = .ok (.aload_n 0, 1) := by decide +kernel
theorem dX4_howManyNotGuessed_6 : decode cX4_howManyNotGuessed 6 = .ok (.getfield 35, 3) := by decide +kernel
theorem dX4_howManyNotGuessed_9 : decode cX4_howManyNotGuessed 9 = .ok (.if_icmp .ge 25, 3) := by decide +kernel
theorem dX4_howManyNotGuessed_12 : decode cX4_howManyNotGuessed 12 = .ok (.aload_n 0, 1) := by decide +kernel
theorem dX4_howManyNotGuessed_13 : decode cX4_howManyNotGuessed 13 = .ok (.getfield 14, 3) := by decide +kernel
theorem dX4_howManyNotGuessed_16 : decode cX4_howManyNotGuessed 16 = .ok (.iload_n 2, 1) := by decide +kernel
theorem dX4_howManyNotGuessed_17 : decode cX4_howManyNotGuessed 17 = .ok (.invokevirtual 67, 3) := by decide +kernel
theorem dX4_howManyNotGuessed_20 : decode cX4_howManyNotGuessed 20 = .ok (.bipush (-5), 2) := by decide +kernel
theorem dX4_howManyNotGuessed_22 : decode cX4_howManyNotGuessed 22 = .ok (.if_icmp .ne 6, 3) := by decide +kernel
theorem dX4_howManyNotGuessed_25 : decode cX4_howManyNotGuessed 25 = .ok (.iinc 1 1, 3) := by decide +kernel
theorem dX4_howManyNotGuessed_28 : decode cX4_howManyNotGuessed 28 = .ok (.iinc 2 1, 3) := by decide +kernel
theorem dX4_howManyNotGuessed_31 : decode cX4_howManyNotGuessed 31 = .ok (.goto (-27), 3) := by decide +kernel
theorem dX4_howManyNotGuessed_34 : decode cX4_howManyNotGuessed 34 = .ok (.iload_n 1, 1) := by decide +kernel
theorem dX4_howManyNotGuessed_35 : decode cX4_howManyNotGuessed 35 = .ok (.ireturn, 1) := by decide +kernel
set_option maxRecDepth 20000 in
theorem ggX5_init_X3_init : GoodIn wsX5_init wsX3_init := goodIn_r _ [14, 15, 2, 3, 16, 17, 18, 19, 20, 21, 22] (by decide +kernel) (by decide +kernel)
set_option maxRecDepth 20000 in
theorem gX5_init_X3_init : GoodIn wsX5_init (wsX3_init) := ggX5_init_X3_init
theorem dX5_init_0 : decode cX5_init 0 = .ok (.aload_n 0, 1) := by decide +kernel
theorem dX5_init_1 : decode cX5_init 1 = .ok (.invokespecial 3, 3) := by decide +kernel
theorem dX5_init_4 : decode cX5_init 4 = .ok (.aload_n 0, 1) := by decide +kernel
theorem dX5_init_5 : decode cX5_init 5 = .ok (.new 9, 3) := by decide +kernel
theorem dX5_init_8 : decode cX5_init 8 = .ok (.dup, 1) := by decide +kernel
theorem dX5_init_9 : decode cX5_init 9 = .ok (.bipush 80, 2) := by decide +kernel
theorem dX5_init_11 : decode cX5_init 11 = .ok (.invokespecial 11, 3) := by decide +kernel
theorem dX5_init_14 : decode cX5_init 14 = .ok (.putfield 14, 3) := by decide +kernel
theorem dX5_init_17 : decode cX5_init 17 = .ok (.aload_n 0, 1) := by decide +kernel
theorem dX5_init_18 : decode cX5_init 18 = .ok (.new 9, 3) := by decide +kernel
theorem dX5_init_21 : decode cX5_init 21 = .ok (.dup, 1) := by decide +kernel
theorem dX5_init_22 : decode cX5_init 22 = .ok (.bipush 80, 2) := by decide +kernel
theorem dX5_init_24 : decode cX5_init 24 = .ok (.invokespecial 11, 3) := by decide +kernel
theorem dX5_init_27 : decode cX5_init 27 = .ok (.putfield 20, 3) := by decide +kernel
theorem dX5_init_30 : decode cX5_init 30 = .ok (.aload_n 0, 1) := by decide +kernel
theorem dX5_init_31 : decode cX5_init 31 = .ok (.new 9, 3) := by decide +kernel
theorem dX5_init_34 : decode cX5_init 34 = .ok (.dup, 1) := by decide +kernel
theorem dX5_init_35 : decode cX5_init 35 = .ok (.bipush 80, 2) := by decide +kernel
theorem dX5_init_37 : decode cX5_init 37 = .ok (.invokespecial 11, 3) := by decide +kernel
theorem dX5_init_40 : decode cX5_init 40 = .ok (.putfield 23, 3) := by decide +kernel
theorem dX5_init_43 : decode cX5_init 43 = .ok (.aload_n 0, 1) := by decide +kernel
theorem dX5_init_44 : decode cX5_init 44 = .ok (.new 9, 3) := by decide +kernel
theorem dX5_init_47 : decode cX5_init 47 = .ok (.dup, 1) := by decide +kernel
theorem dX5_init_48 : decode cX5_init 48 = .ok (.bipush 80, 2) := by decide +kernel
theorem dX5_init_50 : decode cX5_init 50 = .ok (.invokespecial 11, 3) := by decide +kernel
theorem dX5_init_53 : decode cX5_init 53 = .ok (.putfield 26, 3) := by decide +kernel
theorem dX5_init_56 : decode cX5_init 56 = .ok (.aload_n 0, 1) := by decide +kernel
theorem dX5_init_57 : decode cX5_init 57 = .ok (.iconst 0, 1) := by decide +kernel
theorem dX5_init_58 : decode cX5_init 58 = .ok (.putfield 29, 3) := by decide +kernel
theorem dX5_init_61 : decode cX5_init 61 = .ok (.return_, 1) := by decide +kernel
theorem dX5_has_0 : decode cX5_has 0 = .ok (.iload_n 1, 1) := by decide +kernel
theorem dX5_has_1 : decode cX5_has 1 = .ok (.ifCond .lt 15, 3) := by decide +kernel
theorem dX5_has_4 : decode cX5_has 4 = .ok (.iload_n 1, 1) := by decide +kernel
theorem dX5_has_5 : decode cX5_has 5 = .ok (.aload_n 0, 1) := by decide +kernel
theorem dX5_has_6 : decode cX5_has 6 = .ok (.getfield 29, 3) := by decide +kernel
theorem dX5_has_9 : decode cX5_has 9 = .ok (.if_icmp .ge 7, 3) := by decide +kernel
theorem dX5_has_12 : decode cX5_has 12 = .ok (.iconst 1, 1) := by decide +kernel
theorem dX5_has_13 : decode cX5_has 13 = .ok (.goto 4, 3) := by decide +kernel
theorem dX5_has_16 : decode cX5_has 16 = .ok (.iconst 0, 1) := by decide +kernel
theorem dX5_has_17 : decode cX5_has 17 = .ok (.ireturn, 1) := by decide +kernel
set_option maxRecDepth 20000 in
theorem ggX5_isGood_X3_at : GoodIn wsX5_isGood wsX3_at := goodIn_r _ [6, 7, 8, 9, 10, 5, 11, 17] (by decide +kernel) (by decide +kernel)
set_option maxRecDepth 20000 in
theorem gX5_isGood_X3_at : GoodIn wsX5_isGood (wsV RX5 33 RX3 yX3_at wsX3_at) := goodIn_app (goodIn_of _ (by decide +kernel)) ggX5_isGood_X3_at
theorem dX5_isGood_0 : decode cX5_isGood 0 = .ok (.aload_n 0, 1) := by decide +kernel
theorem dX5_isGood_1 : decode cX5_isGood 1 = .ok (.getfield 23, 3) := by decide +kernel
theorem dX5_isGood_4 : decode cX5_isGood 4 = .ok (.iload_n 1, 1) := by decide +kernel
theorem dX5_isGood_5 : decode cX5_isGood 5 = .ok (.invokevirtual 33, 3) := by decide +kernel
theorem dX5_isGood_8 : decode cX5_isGood 8 = .ok (.iconst 1, 1) := by decide +kernel
theorem dX5_isGood_9 : decode cX5_isGood 9 = .ok (.if_icmp .ne 7, 3) := by decide +kernel
theorem dX5_isGood_12 : decode cX5_isGood 12 = .ok (.iconst 1, 1) := by decide +kernel
theorem dX5_isGood_13 : decode cX5_isGood 13 = .ok (.goto 4, 3) := by decide +kernel
theorem dX5_isGood_16 : decode cX5_isGood 16 = .ok (.iconst 0, 1) := by decide +kernel
theorem dX5_isGood_17 : decode cX5_isGood 17 = .ok (.ireturn, 1) := by decide +kernel
set_option maxRecDepth 20000 in
theorem ggX5_add_X3_put : GoodIn wsX5_add wsX3_put := goodIn_r _ [10, 11, 12, 13, 14, 9, 15, 24] (by decide +kernel) (by decide +kernel)
set_option maxRecDepth 20000 in
theorem gX5_add_X3_put : GoodIn wsX5_add (wsV RX5 37 RX3 yX3_put wsX3_put) := goodIn_app (goodIn_of _ (by decide +kernel)) ggX5_add_X3_put
set_option maxRecDepth 20000 in
theorem ggX5_add_X7_asNumber : GoodIn wsX5_add wsX7_asNumber := goodIn_r _ [18] (by decide +kernel) (by decide +kernel)
set_option maxRecDepth 20000 in
theorem gX5_add_X7_asNumber_n41 : GoodIn wsX5_add (wsX7_asNumber) := ggX5_add_X7_asNumber
theorem dX5_add_0 : decode cX5_add 0 = .ok (.aload_n 0, 1) := by decide +kernel
theorem dX5_add_1 : decode cX5_add 1 = .ok (.getfield 29, 3) := by decide +kernel
theorem dX5_add_4 : decode cX5_add 4 = .ok (.bipush 80, 2) := by decide +kernel
theorem dX5_add_6 : decode cX5_add 6 = .ok (.if_icmp .lt 4, 3) := by decide +kernel
theorem dX5_add_9 : decode cX5_add 9 = .ok (.return_, 1) := by decide +kernel
theorem dX5_add_10 : decode cX5_add 10 = .ok (.aload_n 0, 1) := by decide +kernel
theorem dX5_add_11 : decode cX5_add 11 = .ok (.getfield 14, 3) := by decide +kernel
theorem dX5_add_14 : decode cX5_add 14 = .ok (.aload_n 0, 1) := by decide +kernel
theorem dX5_add_15 : decode cX5_add 15 = .ok (.getfield 29, 3) := by decide +kernel
theorem dX5_add_18 : decode cX5_add 18 = .ok (.iload_n 1, 1) := by decide +kernel
theorem dX5_add_19 : decode cX5_add 19 = .ok (.invokevirtual 37, 3) := by decide +kernel
theorem dX5_add_22 : decode cX5_add 22 = .ok (.aload_n 0, 1) := by decide +kernel
theorem dX5_add_23 : decode cX5_add 23 = .ok (.getfield 20, 3) := by decide +kernel
theorem dX5_add_26 : decode cX5_add 26 = .ok (.aload_n 0, 1) := by decide +kernel
theorem dX5_add_27 : decode cX5_add 27 = .ok (.getfield 29, 3) := by decide +kernel
theorem dX5_add_30 : decode cX5_add 30 = .ok (.iload_n 2, 1) := by decide +kernel
theorem dX5_add_31 : decode cX5_add 31 = .ok (.invokevirtual 37, 3) := by decide +kernel
theorem dX5_add_34 : decode cX5_add 34 = .ok (.aload_n 0, 1) := by decide +kernel
theorem dX5_add_35 : decode cX5_add 35 = .ok (.getfield 23, 3) := by decide +kernel
theorem dX5_add_38 : decode cX5_add 38 = .ok (.aload_n 0, 1) := by decide +kernel
theorem dX5_add_39 : decode cX5_add 39 = .ok (.getfield 29, 3) := by decide +kernel
theorem dX5_add_42 : decode cX5_add 42 = .ok (.iload_n 3, 1) := by decide +kernel
theorem dX5_add_43 : decode cX5_add 43 = .ok (.invokestatic 41, 3) := by decide +kernel
theorem dX5_add_46 : decode cX5_add 46 = .ok (.invokevirtual 37, 3) := by decide +kernel
theorem dX5_add_49 : decode cX5_add 49 = .ok (.aload_n 0, 1) := by decide +kernel
theorem dX5_add_50 : decode cX5_add 50 = .ok (.getfield 26, 3) := by decide +kernel
theorem dX5_add_53 : decode cX5_add 53 = .ok (.aload_n 0, 1) := by decide +kernel
theorem dX5_add_54 : decode cX5_add 54 = .ok (.getfield 29, 3) := by decide +kernel
theorem dX5_add_57 : decode cX5_add 57 = .ok (.iload 4, 2) := by decide +kernel
theorem dX5_add_59 : decode cX5_add 59 = .ok (.invokevirtual 37, 3) := by decide +kernel
theorem dX5_add_62 : decode cX5_add 62 = .ok (.aload_n 0, 1) := by decide +kernel
theorem dX5_add_63 : decode cX5_add 63 = .ok (.dup, 1) := by decide +kernel
theorem dX5_add_64 : decode cX5_add 64 = .ok (.getfield 29, 3) := by decide +kernel
theorem dX5_add_67 : decode cX5_add 67 = .ok (.iconst 1, 1) := by decide +kernel
theorem dX5_add_68 : decode cX5_add 68 = .ok (.iadd, 1) := by decide +kernel
theorem dX5_add_69 : decode cX5_add 69 = .ok (.putfield 29, 3) := by decide +kernel
theorem dX5_add_72 : decode cX5_add 72 = .ok (.return_, 1) := by decide +kernel
set_option maxRecDepth 20000 in
theorem ggX5_removeAt_X5_has : GoodIn wsX5_removeAt wsX5_has := goodIn_r _ [10, 5, 25, 26, 27, 28, 29] (by decide +kernel) (by decide +kernel)
set_option maxRecDepth 20000 in
theorem gX5_removeAt_X5_has : GoodIn wsX5_removeAt (wsV RX5 45 RX5 yX5_has wsX5_has) := goodIn_app (goodIn_of _ (by decide +kernel)) ggX5_removeAt_X5_has
set_option maxRecDepth 20000 in
theorem ggX5_removeAt_X3_removeAt : GoodIn wsX5_removeAt wsX3_removeAt := goodIn_r _ [15, 16, 17, 18, 19, 20, 21, 22, 23, 14, 24, 30] (by decide +kernel) (by decide +kernel)
set_option maxRecDepth 20000 in
theorem gX5_removeAt_X3_removeAt : GoodIn wsX5_removeAt (wsV RX5 49 RX3 yX3_removeAt wsX3_removeAt) := goodIn_app (goodIn_of _ (by decide +kernel)) ggX5_removeAt_X3_removeAt
theorem dX5_removeAt_0 : decode cX5_removeAt 0 = .ok (.aload_n 0, 1) := by decide +kernel
theorem dX5_removeAt_1 : decode cX5_removeAt 1 = .ok (.iload_n 1, 1) := by decide +kernel
theorem dX5_removeAt_2 : decode cX5_removeAt 2 = .ok (.invokevirtual 45, 3) := by decide +kernel
theorem dX5_removeAt_5 : decode cX5_removeAt 5 = .ok (.ifCond .ne 4, 3) := by decide +kernel
theorem dX5_removeAt_8 : decode cX5_removeAt 8 = .ok (.return_, 1) := by decide +kernel
theorem dX5_removeAt_9 : decode cX5_removeAt 9 = .ok (.aload_n 0, 1) := by decide +kernel
theorem dX5_removeAt_10 : decode cX5_removeAt 10 = .ok (.getfield 14, 3) := by decide +kernel
theorem dX5_removeAt_13 : decode cX5_removeAt 13 = .ok (.iload_n 1, 1) := by decide +kernel
theorem dX5_removeAt_14 : decode cX5_removeAt 14 = .ok (.invokevirtual 49, 3) := by decide +kernel
theorem dX5_removeAt_17 : decode cX5_removeAt 17 = .ok (.aload_n 0, 1) := by decide +kernel
theorem dX5_removeAt_18 : decode cX5_removeAt 18 = .ok (.getfield 20, 3) := by decide +kernel
theorem dX5_removeAt_21 : decode cX5_removeAt 21 = .ok (.iload_n 1, 1) := by decide +kernel
theorem dX5_removeAt_22 : decode cX5_removeAt 22 = .ok (.invokevirtual 49, 3) := by decide +kernel
theorem dX5_removeAt_25 : decode cX5_removeAt 25 = .ok (.aload_n 0, 1) := by decide +kernel
theorem dX5_removeAt_26 : decode cX5_removeAt 26 = .ok (.getfield 23, 3) := by decide +kernel
theorem dX5_removeAt_29 : decode cX5_removeAt 29 = .ok (.iload_n 1, 1) := by decide +kernel
theorem dX5_removeAt_30 : decode cX5_removeAt 30 = .ok (.invokevirtual 49, 3) := by decide +kernel
theorem dX5_removeAt_33 : decode cX5_removeAt 33 = .ok (.aload_n 0, 1) := by decide +kernel
theorem dX5_removeAt_34 : decode cX5_removeAt 34 = .ok (.getfield 26, 3) := by decide +kernel
theorem dX5_removeAt_37 : decode cX5_removeAt 37 = .ok (.iload_n 1, 1) := by decide +kernel
theorem dX5_removeAt_38 : decode cX5_removeAt 38 = .ok (.invokevirtual 49, 3) := by decide +kernel
theorem dX5_removeAt_41 : decode cX5_removeAt 41 = .ok (.aload_n 0, 1) := by decide +kernel
theorem dX5_removeAt_42 : decode cX5_removeAt 42 = .ok (.dup, 1) := by decide +kernel
theorem dX5_removeAt_43 : decode cX5_removeAt 43 = .ok (.getfield 29, 3) := by decide +kernel
theorem dX5_removeAt_46 : decode cX5_removeAt 46 = .ok (.iconst 1, 1) := by decide +kernel
theorem dX5_removeAt_47 : decode cX5_removeAt 47 = .ok (.isub, 1) := by decide +kernel
theorem dX5_removeAt_48 : decode cX5_removeAt 48 = .ok (.putfield 29, 3) := by decide +kernel
theorem dX5_removeAt_51 : decode cX5_removeAt 51 = .ok (.return_, 1) := by decide +kernel
set_option maxRecDepth 20000 in
theorem ggX5_howManyShow_X3_at : GoodIn wsX5_howManyShow wsX3_at := goodIn_r _ [7, 8, 9, 10, 11, 6, 12, 18] (by decide +kernel) (by decide +kernel)
set_option maxRecDepth 20000 in
theorem gX5_howManyShow_X3_at : GoodIn wsX5_howManyShow (wsV RX5 33 RX3 yX3_at wsX3_at) := goodIn_app (goodIn_of _ (by decide +kernel)) ggX5_howManyShow_X3_at
theorem dX5_howManyShow_0 : decode cX5_howManyShow 0 = .ok (.iconst 0, 1) := by decide +kernel
theorem dX5_howManyShow_1 : decode cX5_howManyShow 1 = .ok (.istore_n 2, 1) := by decide +kernel
theorem dX5_howManyShow_2 : decode cX5_howManyShow 2 = .ok (.iconst 0, 1) := by decide +kernel
theorem dX5_howManyShow_3 : decode cX5_howManyShow 3 = .ok (.istore_n 3, 1) := by decide +kernel
theorem dX5_howManyShow_4 : decode cX5_howManyShow 4 = .ok (.iload_n 3, 1) := by decide +kernel
theorem dX5_howManyShow_5 : decode cX5_howManyShow 5 = .ok (.aload_n 0, 1) := by decide +kernel
theorem dX5_howManyShow_6 : decode cX5_howManyShow 6 = .ok (.getfield 29, 3) := by decide +kernel
theorem dX5_howManyShow_9 : decode cX5_howManyShow 9 = .ok (.if_icmp .ge 24, 3) := by decide +kernel
theorem dX5_howManyShow_12 : decode cX5_howManyShow 12 = .ok (.aload_n 0, 1) := by decide +kernel
theorem dX5_howManyShow_13 : decode cX5_howManyShow 13 = .ok (.getfield 14, 3) := by decide +kernel
theorem dX5_howManyShow_16 : decode cX5_howManyShow 16 = .ok (.iload_n 3, 1) := by decide +kernel
theorem dX5_howManyShow_17 : decode cX5_howManyShow 17 = .ok (.invokevirtual 33, 3) := by decide +kernel
theorem dX5_howManyShow_20 : decode cX5_howManyShow 20 = .ok (.iload_n 1, 1) := by decide +kernel
theorem dX5_howManyShow_21 : decode cX5_howManyShow 21 = .ok (.if_icmp .ne 6, 3) := by decide +kernel
theorem dX5_howManyShow_24 : decode cX5_howManyShow 24 = .ok (.iinc 2 1, 3) := by decide +kernel
theorem dX5_howManyShow_27 : decode cX5_howManyShow 27 = .ok (.iinc 3 1, 3) := by decide +kernel
theorem dX5_howManyShow_30 : decode cX5_howManyShow 30 = .ok (.goto (-26), 3) := by decide +kernel
theorem dX5_howManyShow_33 : decode cX5_howManyShow 33 = .ok (.iload_n 2, 1) := by decide +kernel
theorem dX5_howManyShow_34 : decode cX5_howManyShow 34 = .ok (.ireturn, 1) := by decide +kernel
set_option maxRecDepth 20000 in
theorem ggX5_copyFrom_X3_copyFrom : GoodIn wsX5_copyFrom wsX3_copyFrom := goodIn_r _ [10, 11, 12, 13, 14, 15, 16, 17, 18, 19, 25] (by decide +kernel) (by decide +kernel)
set_option maxRecDepth 20000 in
theorem gX5_copyFrom_X3_copyFrom : GoodIn wsX5_copyFrom (wsV RX5 52 RX3 yX3_copyFrom wsX3_copyFrom) := goodIn_app (goodIn_of _ (by decide +kernel)) ggX5_copyFrom_X3_copyFrom
theorem dX5_copyFrom_0 : decode cX5_copyFrom 0 = .ok (.aload_n 0, 1) := by decide +kernel
theorem dX5_copyFrom_1 : decode cX5_copyFrom 1 = .ok (.getfield 14, 3) := by decide +kernel
theorem dX5_copyFrom_4 : decode cX5_copyFrom 4 = .ok (.aload_n 1, 1) := by decide +kernel
theorem dX5_copyFrom_5 : decode cX5_copyFrom 5 = .ok (.getfield 14, 3) := by decide +kernel
theorem dX5_copyFrom_8 : decode cX5_copyFrom 8 = .ok (.invokevirtual 52, 3) := by decide +kernel
theorem dX5_copyFrom_11 : decode cX5_copyFrom 11 = .ok (.aload_n 0, 1) := by decide +kernel
theorem dX5_copyFrom_12 : decode cX5_copyFrom 12 = .ok (.getfield 20, 3) := by decide +kernel
theorem dX5_copyFrom_15 : decode cX5_copyFrom 15 = .ok (.aload_n 1, 1) := by decide +kernel
theorem dX5_copyFrom_16 : decode cX5_copyFrom 16 = .ok (.getfield 20, 3) := by decide +kernel
theorem dX5_copyFrom_19 : decode cX5_copyFrom 19 = .ok (.invokevirtual 52, 3) := by decide +kernel
theorem dX5_copyFrom_22 : decode cX5_copyFrom 22 = .ok (.aload_n 0, 1) := by decide +kernel
theorem dX5_copyFrom_23 : decode cX5_copyFrom 23 = .ok (.getfield 23, 3) := by decide +kernel
theorem dX5_copyFrom_26 : decode cX5_copyFrom 26 = .ok (.aload_n 1, 1) := by decide +kernel
theorem dX5_copyFrom_27 : decode cX5_copyFrom 27 = .ok (.getfield 23, 3) := by decide +kernel
theorem dX5_copyFrom_30 : decode cX5_copyFrom 30 = .ok (.invokevirtual 52, 3) := by decide +kernel
theorem dX5_copyFrom_33 : decode cX5_copyFrom 33 = .ok (.aload_n 0, 1) := by decide +kernel
theorem dX5_copyFrom_34 : decode cX5_copyFrom 34 = .ok (.getfield 26, 3) := by decide +kernel
theorem dX5_copyFrom_37 : decode cX5_copyFrom 37 = .ok (.aload_n 1, 1) := by decide +kernel
theorem dX5_copyFrom_38 : decode cX5_copyFrom 38 = .ok (.getfield 26, 3) := by decide +kernel
theorem dX5_copyFrom_41 : decode cX5_copyFrom 41 = .ok (.invokevirtual 52, 3) := by decide +kernel
theorem dX5_copyFrom_44 : decode cX5_copyFrom 44 = .ok (.aload_n 0, 1) := by decide +kernel
theorem dX5_copyFrom_45 : decode cX5_copyFrom 45 = .ok (.aload_n 1, 1) := by decide +kernel
theorem dX5_copyFrom_46 : decode cX5_copyFrom 46 = .ok (.getfield 29, 3) := by decide +kernel
theorem dX5_copyFrom_49 : decode cX5_copyFrom 49 = .ok (.putfield 29, 3) := by decide +kernel
theorem dX5_copyFrom_52 : decode cX5_copyFrom 52 = .ok (.return_, 1) := by decide +kernel
set_option maxRecDepth 20000 in
theorem ggX6_init_X0_init : GoodIn wsX6_init wsX0_init := goodIn_r _ [19, 20, 2, 3, 21, 13, 14, 22, 23, 24, 25, 26, 27, 28, 29, 30, 31, 32, 33, 34, 35, 75, 56, 57, 58, 59] (by decide +kernel) (by decide +kernel)
set_option maxRecDepth 20000 in
theorem gX6_init_X0_init : GoodIn wsX6_init (wsX0_init) := ggX6_init_X0_init
set_option maxRecDepth 20000 in
theorem ggX6_init_X5_init : GoodIn wsX6_init wsX5_init := goodIn_r _ [38, 39, 2, 3, 40, 13, 14, 41, 42, 43, 44, 45, 46, 27, 28, 29, 30, 31, 32, 33, 34, 35, 75, 70, 71, 72, 73, 74] (by decide +kernel) (by decide +kernel)
set_option maxRecDepth 20000 in
theorem gX6_init_X5_init : GoodIn wsX6_init (wsX5_init) := ggX6_init_X5_init
set_option maxRecDepth 20000 in
theorem ggX6_init_X3_init : GoodIn wsX6_init wsX3_init := goodIn_r _ [28, 29, 2, 3, 30, 31, 32, 33, 34, 35, 75] (by decide +kernel) (by decide +kernel)
set_option maxRecDepth 20000 in
theorem gX6_init_X3_init : GoodIn wsX6_init (wsX3_init) := ggX6_init_X3_init
set_option maxRecDepth 20000 in
theorem ggX6_init_X3_put : GoodIn wsX6_init wsX3_put := goodIn_r _ [51, 35, 52, 53, 54, 14, 55, 75] (by decide +kernel) (by decide +kernel)
set_option maxRecDepth 20000 in
theorem gX6_init_X3_put : GoodIn wsX6_init (wsV RX6 38 RX3 yX3_put wsX3_put) := goodIn_app (goodIn_of _ (by decide +kernel)) ggX6_init_X3_put
theorem dX6_init_0 : decode cX6_init 0 = .ok (.aload_n 0, 1) := by decide +kernel
theorem dX6_init_1 : decode cX6_init 1 = .ok (.invokespecial 3, 3) := by decide +kernel
theorem dX6_init_4 : decode cX6_init 4 = .ok (.aload_n 0, 1) := by decide +kernel
theorem dX6_init_5 : decode cX6_init 5 = .ok (.new 9, 3) := by decide +kernel
theorem dX6_init_8 : decode cX6_init 8 = .ok (.dup, 1) := by decide +kernel
theorem dX6_init_9 : decode cX6_init 9 = .ok (.invokespecial 11, 3) := by decide +kernel
theorem dX6_init_12 : decode cX6_init 12 = .ok (.putfield 12, 3) := by decide +kernel
theorem dX6_init_15 : decode cX6_init 15 = .ok (.aload_n 0, 1) := by decide +kernel
theorem dX6_init_16 : decode cX6_init 16 = .ok (.new 18, 3) := by decide +kernel
theorem dX6_init_19 : decode cX6_init 19 = .ok (.dup, 1) := by decide +kernel
theorem dX6_init_20 : decode cX6_init 20 = .ok (.invokespecial 20, 3) := by decide +kernel
theorem dX6_init_23 : decode cX6_init 23 = .ok (.putfield 21, 3) := by decide +kernel
theorem dX6_init_26 : decode cX6_init 26 = .ok (.aload_n 0, 1) := by decide +kernel
theorem dX6_init_27 : decode cX6_init 27 = .ok (.new 25, 3) := by decide +kernel
theorem dX6_init_30 : decode cX6_init 30 = .ok (.dup, 1) := by decide +kernel
theorem dX6_init_31 : decode cX6_init 31 = .ok (.getstatic 27, 3) := by decide +kernel
theorem dX6_init_34 : decode cX6_init 34 = .ok (.arraylength, 1) := by decide +kernel
theorem dX6_init_35 : decode cX6_init 35 = .ok (.invokespecial 31, 3) := by decide +kernel
theorem dX6_init_38 : decode cX6_init 38 = .ok (.putfield 34, 3) := by decide +kernel
theorem dX6_init_41 : decode cX6_init 41 = .ok (.iconst 0, 1) := by decide +kernel
theorem dX6_init_42 : decode cX6_init 42 = .ok (.istore_n 1, 1) := by decide +kernel
theorem dX6_init_43 : decode cX6_init 43 = .ok (.iload_n 1, 1) := by decide +kernel
theorem dX6_init_44 : decode cX6_init 44 = .ok (.getstatic 27, 3) := by decide +kernel
theorem dX6_init_47 : decode cX6_init 47 = .ok (.arraylength, 1) := by decide +kernel
theorem dX6_init_48 : decode cX6_init 48 = .ok (.if_icmp .ge 22, 3) := by decide +kernel
theorem dX6_init_51 : decode cX6_init 51 = .ok (.aload_n 0, 1) := by decide +kernel
theorem dX6_init_52 : decode cX6_init 52 = .ok (.getfield 34, 3) := by decide +kernel
theorem dX6_init_55 : decode cX6_init 55 = .ok (.iload_n 1, 1) := by decide +kernel
theorem dX6_init_56 : decode cX6_init 56 = .ok (.getstatic 27, 3) := by decide +kernel
theorem dX6_init_59 : decode cX6_init 59 = .ok (.iload_n 1, 1) := by decide +kernel
theorem dX6_init_60 : decode cX6_init 60 = .ok (.iaload, 1) := by decide +kernel
theorem dX6_init_61 : decode cX6_init 61 = .ok (.invokevirtual 38, 3) := by decide +kernel
theorem dX6_init_64 : decode cX6_init 64 = .ok (.iinc 1 1, 3) := by decide +kernel
theorem dX6_init_67 : decode cX6_init 67 = .ok (.goto (-24), 3) := by decide +kernel
theorem dX6_init_70 : decode cX6_init 70 = .ok (.aload_n 0, 1) := by decide +kernel
theorem dX6_init_71 : decode cX6_init 71 = .ok (.bipush 6, 2) := by decide +kernel
theorem dX6_init_73 : decode cX6_init 73 = .ok (.putfield 42, 3) := by decide +kernel
theorem dX6_init_76 : decode cX6_init 76 = .ok (.return_, 1) := by decide +kernel
set_option maxRecDepth 20000 in
theorem ggX6_copyFrom_X0_copyFrom : GoodIn wsX6_copyFrom wsX0_copyFrom := goodIn_r _ [15, 16, 17, 18, 19, 20, 21, 22, 23, 24, 25, 26, 27, 28, 29, 30, 31, 32, 33, 56, 57, 58, 59, 60] (by decide +kernel) (by decide +kernel)
set_option maxRecDepth 20000 in
theorem gX6_copyFrom_X0_copyFrom : GoodIn wsX6_copyFrom (wsV RX6 46 RX0 yX0_copyFrom wsX0_copyFrom) := goodIn_app (goodIn_of _ (by decide +kernel)) ggX6_copyFrom_X0_copyFrom
set_option maxRecDepth 20000 in
theorem ggX6_copyFrom_X5_copyFrom : GoodIn wsX6_copyFrom wsX5_copyFrom := goodIn_r _ [38, 39, 40, 41, 42, 43, 44, 21, 22, 23, 24, 25, 26, 27, 28, 29, 30, 31, 32, 33, 61, 62, 63, 64, 65, 60] (by decide +kernel) (by decide +kernel)
set_option maxRecDepth 20000 in
theorem gX6_copyFrom_X5_copyFrom : GoodIn wsX6_copyFrom (wsV RX6 50 RX5 yX5_copyFrom wsX5_copyFrom) := goodIn_app (goodIn_of _ (by decide +kernel)) ggX6_copyFrom_X5_copyFrom
set_option maxRecDepth 20000 in
theorem ggX6_copyFrom_X3_copyFrom : GoodIn wsX6_copyFrom wsX3_copyFrom := goodIn_r _ [24, 25, 26, 27, 28, 29, 30, 31, 32, 33, 60] (by decide +kernel) (by decide +kernel)
set_option maxRecDepth 20000 in
theorem gX6_copyFrom_X3_copyFrom : GoodIn wsX6_copyFrom (wsV RX6 53 RX3 yX3_copyFrom wsX3_copyFrom) := goodIn_app (goodIn_of _ (by decide +kernel)) ggX6_copyFrom_X3_copyFrom
theorem dX6_copyFrom_0 : decode cX6_copyFrom 0 = .ok (.aload_n 0, 1) := by decide +kernel
theorem dX6_copyFrom_1 : decode cX6_copyFrom 1 = .ok (.getfield 12, 3) := by decide +kernel
theorem dX6_copyFrom_4 : decode cX6_copyFrom 4 = .ok (.aload_n 1, 1) := by decide +kernel
theorem dX6_copyFrom_5 : decode cX6_copyFrom 5 = .ok (.getfield 12, 3) := by decide +kernel
theorem dX6_copyFrom_8 : decode cX6_copyFrom 8 = .ok (.invokevirtual 46, 3) := by decide +kernel
theorem dX6_copyFrom_11 : decode cX6_copyFrom 11 = .ok (.aload_n 0, 1) := by decide +kernel
theorem dX6_copyFrom_12 : decode cX6_copyFrom 12 = .ok (.getfield 21, 3) := by decide +kernel
theorem dX6_copyFrom_15 : decode cX6_copyFrom 15 = .ok (.aload_n 1, 1) := by decide +kernel
theorem dX6_copyFrom_16 : decode cX6_copyFrom 16 = .ok (.getfield 21, 3) := by decide +kernel
theorem dX6_copyFrom_19 : decode cX6_copyFrom 19 = .ok (.invokevirtual 50, 3) := by decide +kernel
theorem dX6_copyFrom_22 : decode cX6_copyFrom 22 = .ok (.aload_n 0, 1) := by decide +kernel
theorem dX6_copyFrom_23 : decode cX6_copyFrom 23 = .ok (.getfield 34, 3) := by decide +kernel
theorem dX6_copyFrom_26 : decode cX6_copyFrom 26 = .ok (.aload_n 1, 1) := by decide +kernel
theorem dX6_copyFrom_27 : decode cX6_copyFrom 27 = .ok (.getfield 34, 3) := by decide +kernel
theorem dX6_copyFrom_30 : decode cX6_copyFrom 30 = .ok (.invokevirtual 53, 3) := by decide +kernel
theorem dX6_copyFrom_33 : decode cX6_copyFrom 33 = .ok (.aload_n 0, 1) := by decide +kernel
theorem dX6_copyFrom_34 : decode cX6_copyFrom 34 = .ok (.aload_n 1, 1) := by decide +kernel
theorem dX6_copyFrom_35 : decode cX6_copyFrom 35 = .ok (.getfield 56, 3) := by decide +kernel
theorem dX6_copyFrom_38 : decode cX6_copyFrom 38 = .ok (.putfield 56, 3) := by decide +kernel
theorem dX6_copyFrom_41 : decode cX6_copyFrom 41 = .ok (.aload_n 0, 1) := by decide +kernel
theorem dX6_copyFrom_42 : decode cX6_copyFrom 42 = .ok (.aload_n 1, 1) := by decide +kernel
theorem dX6_copyFrom_43 : decode cX6_copyFrom 43 = .ok (.getfield 42, 3) := by decide +kernel
theorem dX6_copyFrom_46 : decode cX6_copyFrom 46 = .ok (.putfield 42, 3) := by decide +kernel
theorem dX6_copyFrom_49 : decode cX6_copyFrom 49 = .ok (.aload_n 0, 1) := by decide +kernel
theorem dX6_copyFrom_50 : decode cX6_copyFrom 50 = .ok (.aload_n 1, 1) := by decide +kernel
theorem dX6_copyFrom_51 : decode cX6_copyFrom 51 = .ok (.getfield 59, 3) := by decide +kernel
theorem dX6_copyFrom_54 : decode cX6_copyFrom 54 = .ok (.putfield 59, 3) := by decide +kernel
theorem dX6_copyFrom_57 : decode cX6_copyFrom 57 = .ok (.aload_n 0, 1) := by decide +kernel
theorem dX6_copyFrom_58 : decode cX6_copyFrom 58 = .ok (.aload_n 1, 1) := by decide +kernel
theorem dX6_copyFrom_59 : decode cX6_copyFrom 59 = .ok (.getfield 62, 3) := by decide +kernel
theorem dX6_copyFrom_62 : decode cX6_copyFrom 62 = .ok (.putfield 62, 3) := by decide +kernel
theorem dX6_copyFrom_65 : decode cX6_copyFrom 65 = .ok (.aload_n 0, 1) := by decide +kernel
theorem dX6_copyFrom_66 : decode cX6_copyFrom 66 = .ok (.aload_n 1, 1) := by decide +kernel
theorem dX6_copyFrom_67 : decode cX6_copyFrom 67 = .ok (.getfield 65, 3) := by decide +kernel
theorem dX6_copyFrom_70 : decode cX6_copyFrom 70 = .ok (.putfield 65, 3) := by decide +kernel
theorem dX6_copyFrom_73 : decode cX6_copyFrom 73 = .ok (.aload_n 0, 1) := by decide +kernel
theorem dX6_copyFrom_74 : decode cX6_copyFrom 74 = .ok (.aload_n 1, 1) := by decide +kernel
theorem dX6_copyFrom_75 : decode cX6_copyFrom 75 = .ok (.getfield 68, 3) := by decide +kernel
theorem dX6_copyFrom_78 : decode cX6_copyFrom 78 = .ok (.putfield 68, 3) := by decide +kernel
theorem dX6_copyFrom_81 : decode cX6_copyFrom 81 = .ok (.aload_n 0, 1) := by decide +kernel
theorem dX6_copyFrom_82 : decode cX6_copyFrom 82 = .ok (.aload_n 1, 1) := by decide +kernel
theorem dX6_copyFrom_83 : decode cX6_copyFrom 83 = .ok (.getfield 71, 3) := by decide +kernel
theorem dX6_copyFrom_86 : decode cX6_copyFrom 86 = .ok (.putfield 71, 3) := by decide +kernel
theorem dX6_copyFrom_89 : decode cX6_copyFrom 89 = .ok (.return_, 1) := by decide +kernel
theorem dX6_clearForBook_0 : decode cX6_clearForBook 0 = .ok (.aload_n 0, 1) := by decide +kernel
theorem dX6_clearForBook_1 : decode cX6_clearForBook 1 = .ok (.getfield 21, 3) := by decide +kernel
theorem dX6_clearForBook_4 : decode cX6_clearForBook 4 = .ok (.iconst 0, 1) := by decide +kernel
theorem dX6_clearForBook_5 : decode cX6_clearForBook 5 = .ok (.putfield 74, 3) := by decide +kernel
theorem dX6_clearForBook_8 : decode cX6_clearForBook 8 = .ok (.aload_n 0, 1) := by decide +kernel
theorem dX6_clearForBook_9 : decode cX6_clearForBook 9 = .ok (.iconst 0, 1) := by decide +kernel
theorem dX6_clearForBook_10 : decode cX6_clearForBook 10 = .ok (.putfield 56, 3) := by decide +kernel
theorem dX6_clearForBook_13 : decode cX6_clearForBook 13 = .ok (.aload_n 0, 1) := by decide +kernel
theorem dX6_clearForBook_14 : decode cX6_clearForBook 14 = .ok (.iconst 0, 1) := by decide +kernel
theorem dX6_clearForBook_15 : decode cX6_clearForBook 15 = .ok (.putfield 59, 3) := by decide +kernel
theorem dX6_clearForBook_18 : decode cX6_clearForBook 18 = .ok (.aload_n 0, 1) := by decide +kernel
theorem dX6_clearForBook_19 : decode cX6_clearForBook 19 = .ok (.iconst 0, 1) := by decide +kernel
theorem dX6_clearForBook_20 : decode cX6_clearForBook 20 = .ok (.putfield 62, 3) := by decide +kernel
theorem dX6_clearForBook_23 : decode cX6_clearForBook 23 = .ok (.aload_n 0, 1) := by decide +kernel
theorem dX6_clearForBook_24 : decode cX6_clearForBook 24 = .ok (.iconst 0, 1) := by decide +kernel
theorem dX6_clearForBook_25 : decode cX6_clearForBook 25 = .ok (.putfield 65, 3) := by decide +kernel
theorem dX6_clearForBook_28 : decode cX6_clearForBook 28 = .ok (.aload_n 0, 1) := by decide +kernel
theorem dX6_clearForBook_29 : decode cX6_clearForBook 29 = .ok (.iconst 0, 1) := by decide +kernel
theorem dX6_clearForBook_30 : decode cX6_clearForBook 30 = .ok (.putfield 68, 3) := by decide +kernel
theorem dX6_clearForBook_33 : decode cX6_clearForBook 33 = .ok (.aload_n 0, 1) := by decide +kernel
theorem dX6_clearForBook_34 : decode cX6_clearForBook 34 = .ok (.iconst 0, 1) := by decide +kernel
theorem dX6_clearForBook_35 : decode cX6_clearForBook 35 = .ok (.putfield 71, 3) := by decide +kernel
theorem dX6_clearForBook_38 : decode cX6_clearForBook 38 = .ok (.return_, 1) := by decide +kernel
theorem dX6_hasBook_0 : decode cX6_hasBook 0 = .ok (.aload_n 0, 1) := by decide +kernel
theorem dX6_hasBook_1 : decode cX6_hasBook 1 = .ok (.getfield 12, 3) := by decide +kernel
theorem dX6_hasBook_4 : decode cX6_hasBook 4 = .ok (.getfield 77, 3) := by decide +kernel
theorem dX6_hasBook_7 : decode cX6_hasBook 7 = .ok (.ifCond .le 7, 3) := by decide +kernel
theorem dX6_hasBook_10 : decode cX6_hasBook 10 = .ok (.iconst 1, 1) := by decide +kernel
theorem dX6_hasBook_11 : decode cX6_hasBook 11 = .ok (.goto 4, 3) := by decide +kernel
theorem dX6_hasBook_14 : decode cX6_hasBook 14 = .ok (.iconst 0, 1) := by decide +kernel
theorem dX6_hasBook_15 : decode cX6_hasBook 15 = .ok (.ireturn, 1) := by decide +kernel
theorem dX6_leavesOnRight_0 : decode cX6_leavesOnRight 0 = .ok (.aload_n 0, 1) := by decide +kernel
theorem dX6_leavesOnRight_1 : decode cX6_leavesOnRight 1 = .ok (.getfield 12, 3) := by decide +kernel
theorem dX6_leavesOnRight_4 : decode cX6_leavesOnRight 4 = .ok (.getfield 77, 3) := by decide +kernel
theorem dX6_leavesOnRight_7 : decode cX6_leavesOnRight 7 = .ok (.aload_n 0, 1) := by decide +kernel
theorem dX6_leavesOnRight_8 : decode cX6_leavesOnRight 8 = .ok (.getfield 56, 3) := by decide +kernel
theorem dX6_leavesOnRight_11 : decode cX6_leavesOnRight 11 = .ok (.isub, 1) := by decide +kernel
theorem dX6_leavesOnRight_12 : decode cX6_leavesOnRight 12 = .ok (.ireturn, 1) := by decide +kernel
theorem dX6_openOnLeft_0 : decode cX6_openOnLeft 0 = .ok (.aload_n 0, 1) := by decide +kernel
theorem dX6_openOnLeft_1 : decode cX6_openOnLeft 1 = .ok (.getfield 56, 3) := by decide +kernel
theorem dX6_openOnLeft_4 : decode cX6_openOnLeft 4 = .ok (.ifCond .le 14, 3) := by decide +kernel
theorem dX6_openOnLeft_7 : decode cX6_openOnLeft 7 = .ok (.iconst 2, 1) := by decide +kernel
theorem dX6_openOnLeft_8 : decode cX6_openOnLeft 8 = .ok (.aload_n 0, 1) := by decide +kernel
theorem dX6_openOnLeft_9 : decode cX6_openOnLeft 9 = .ok (.getfield 56, 3) := by decide +kernel
theorem dX6_openOnLeft_12 : decode cX6_openOnLeft 12 = .ok (.imul, 1) := by decide +kernel
theorem dX6_openOnLeft_13 : decode cX6_openOnLeft 13 = .ok (.iconst 1, 1) := by decide +kernel
theorem dX6_openOnLeft_14 : decode cX6_openOnLeft 14 = .ok (.isub, 1) := by decide +kernel
theorem dX6_openOnLeft_15 : decode cX6_openOnLeft 15 = .ok (.goto 5, 3) := by decide +kernel
theorem dX6_openOnLeft_18 : decode cX6_openOnLeft 18 = .ok (.bipush (-5), 2) := by decide +kernel
theorem dX6_openOnLeft_20 : decode cX6_openOnLeft 20 = .ok (.ireturn, 1) := by decide +kernel
set_option maxRecDepth 20000 in
theorem ggX6_openOnRight_X6_leavesOnRight : GoodIn wsX6_openOnRight wsX6_leavesOnRight := goodIn_r _ [6, 7, 1, 8, 9, 10, 11, 12, 13, 14, 15, 16, 17, 18, 19, 20, 21] (by decide +kernel) (by decide +kernel)
set_option maxRecDepth 20000 in
theorem gX6_openOnRight_X6_leavesOnRight : GoodIn wsX6_openOnRight (wsV RX6 80 RX6 yX6_leavesOnRight wsX6_leavesOnRight) := goodIn_app (goodIn_of _ (by decide +kernel)) ggX6_openOnRight_X6_leavesOnRight
theorem dX6_openOnRight_0 : decode cX6_openOnRight 0 = .ok (.aload_n 0, 1) := by decide +kernel
theorem dX6_openOnRight_1 : decode cX6_openOnRight 1 = .ok (.invokevirtual 80, 3) := by decide +kernel
theorem dX6_openOnRight_4 : decode cX6_openOnRight 4 = .ok (.ifCond .le 12, 3) := by decide +kernel
theorem dX6_openOnRight_7 : decode cX6_openOnRight 7 = .ok (.iconst 2, 1) := by decide +kernel
theorem dX6_openOnRight_8 : decode cX6_openOnRight 8 = .ok (.aload_n 0, 1) := by decide +kernel
theorem dX6_openOnRight_9 : decode cX6_openOnRight 9 = .ok (.getfield 56, 3) := by decide +kernel
theorem dX6_openOnRight_12 : decode cX6_openOnRight 12 = .ok (.imul, 1) := by decide +kernel
theorem dX6_openOnRight_13 : decode cX6_openOnRight 13 = .ok (.goto 5, 3) := by decide +kernel
theorem dX6_openOnRight_16 : decode cX6_openOnRight 16 = .ok (.bipush (-5), 2) := by decide +kernel
theorem dX6_openOnRight_18 : decode cX6_openOnRight 18 = .ok (.ireturn, 1) := by decide +kernel
set_option maxRecDepth 20000 in
theorem ggX6_liftedBy_X3_at : GoodIn wsX6_liftedBy wsX3_at := goodIn_r _ [7, 8, 9, 10, 11, 6, 12, 27] (by decide +kernel) (by decide +kernel)
set_option maxRecDepth 20000 in
theorem gX6_liftedBy_X3_at : GoodIn wsX6_liftedBy (wsV RX6 87 RX3 yX3_at wsX3_at) := goodIn_app (goodIn_of _ (by decide +kernel)) ggX6_liftedBy_X3_at
theorem dX6_liftedBy_0 : decode cX6_liftedBy 0 = .ok (.iconst 0, 1) := by decide +kernel
theorem dX6_liftedBy_1 : decode cX6_liftedBy 1 = .ok (.istore_n 2, 1) := by decide +kernel
theorem dX6_liftedBy_2 : decode cX6_liftedBy 2 = .ok (.iconst 0, 1) := by decide +kernel
theorem dX6_liftedBy_3 : decode cX6_liftedBy 3 = .ok (.istore_n 3, 1) := by decide +kernel
theorem dX6_liftedBy_4 : decode cX6_liftedBy 4 = .ok (.aload_n 0, 1) := by decide +kernel
theorem dX6_liftedBy_5 : decode cX6_liftedBy 5 = .ok (.getfield 56, 3) := by decide +kernel
theorem dX6_liftedBy_8 : decode cX6_liftedBy 8 = .ok (.istore 4, 2) := by decide +kernel
theorem dX6_liftedBy_10 : decode cX6_liftedBy 10 = .ok (.iload 4, 2) := by decide +kernel
theorem dX6_liftedBy_12 : decode cX6_liftedBy 12 = .ok (.aload_n 0, 1) := by decide +kernel
theorem dX6_liftedBy_13 : decode cX6_liftedBy 13 = .ok (.getfield 12, 3) := by decide +kernel
theorem dX6_liftedBy_16 : decode cX6_liftedBy 16 = .ok (.getfield 77, 3) := by decide +kernel
theorem dX6_liftedBy_19 : decode cX6_liftedBy 19 = .ok (.if_icmp .ge 65, 3) := by decide +kernel
theorem dX6_liftedBy_22 : decode cX6_liftedBy 22 = .ok (.iload_n 3, 1) := by decide +kernel
theorem dX6_liftedBy_23 : decode cX6_liftedBy 23 = .ok (.aload_n 0, 1) := by decide +kernel
theorem dX6_liftedBy_24 : decode cX6_liftedBy 24 = .ok (.getfield 12, 3) := by decide +kernel
theorem dX6_liftedBy_27 : decode cX6_liftedBy 27 = .ok (.getfield 84, 3) := by decide +kernel
theorem dX6_liftedBy_30 : decode cX6_liftedBy 30 = .ok (.iload 4, 2) := by decide +kernel
theorem dX6_liftedBy_32 : decode cX6_liftedBy 32 = .ok (.invokevirtual 87, 3) := by decide +kernel
theorem dX6_liftedBy_35 : decode cX6_liftedBy 35 = .ok (.iadd, 1) := by decide +kernel
theorem dX6_liftedBy_36 : decode cX6_liftedBy 36 = .ok (.istore 5, 2) := by decide +kernel
theorem dX6_liftedBy_38 : decode cX6_liftedBy 38 = .ok (.iload_n 1, 1) := by decide +kernel
theorem dX6_liftedBy_39 : decode cX6_liftedBy 39 = .ok (.iload 5, 2) := by decide +kernel
theorem dX6_liftedBy_41 : decode cX6_liftedBy 41 = .ok (.if_icmp .ge 5, 3) := by decide +kernel
theorem dX6_liftedBy_44 : decode cX6_liftedBy 44 = .ok (.iload_n 2, 1) := by decide +kernel
theorem dX6_liftedBy_45 : decode cX6_liftedBy 45 = .ok (.ireturn, 1) := by decide +kernel
theorem dX6_liftedBy_46 : decode cX6_liftedBy 46 = .ok (.iload_n 2, 1) := by decide +kernel
theorem dX6_liftedBy_47 : decode cX6_liftedBy 47 = .ok (.ifCond .le 25, 3) := by decide +kernel
theorem dX6_liftedBy_50 : decode cX6_liftedBy 50 = .ok (.iload_n 1, 1) := by decide +kernel
theorem dX6_liftedBy_51 : decode cX6_liftedBy 51 = .ok (.iload_n 3, 1) := by decide +kernel
theorem dX6_liftedBy_52 : decode cX6_liftedBy 52 = .ok (.isub, 1) := by decide +kernel
theorem dX6_liftedBy_53 : decode cX6_liftedBy 53 = .ok (.aload_n 0, 1) := by decide +kernel
theorem dX6_liftedBy_54 : decode cX6_liftedBy 54 = .ok (.getfield 12, 3) := by decide +kernel
theorem dX6_liftedBy_57 : decode cX6_liftedBy 57 = .ok (.getfield 91, 3) := by decide +kernel
theorem dX6_liftedBy_60 : decode cX6_liftedBy 60 = .ok (.iload 4, 2) := by decide +kernel
theorem dX6_liftedBy_62 : decode cX6_liftedBy 62 = .ok (.iconst 1, 1) := by decide +kernel
theorem dX6_liftedBy_63 : decode cX6_liftedBy 63 = .ok (.isub, 1) := by decide +kernel
theorem dX6_liftedBy_64 : decode cX6_liftedBy 64 = .ok (.invokevirtual 87, 3) := by decide +kernel
theorem dX6_liftedBy_67 : decode cX6_liftedBy 67 = .ok (.if_icmp .lt 5, 3) := by decide +kernel
theorem dX6_liftedBy_70 : decode cX6_liftedBy 70 = .ok (.iload_n 2, 1) := by decide +kernel
theorem dX6_liftedBy_71 : decode cX6_liftedBy 71 = .ok (.ireturn, 1) := by decide +kernel
theorem dX6_liftedBy_72 : decode cX6_liftedBy 72 = .ok (.iload 5, 2) := by decide +kernel
theorem dX6_liftedBy_74 : decode cX6_liftedBy 74 = .ok (.istore_n 3, 1) := by decide +kernel
theorem dX6_liftedBy_75 : decode cX6_liftedBy 75 = .ok (.iinc 2 1, 3) := by decide +kernel
theorem dX6_liftedBy_78 : decode cX6_liftedBy 78 = .ok (.iinc 4 1, 3) := by decide +kernel
theorem dX6_liftedBy_81 : decode cX6_liftedBy 81 = .ok (.goto (-71), 3) := by decide +kernel
theorem dX6_liftedBy_84 : decode cX6_liftedBy 84 = .ok (.iload_n 2, 1) := by decide +kernel
theorem dX6_liftedBy_85 : decode cX6_liftedBy 85 = .ok (.ireturn, 1) := by decide +kernel
set_option maxRecDepth 20000 in
theorem ggX6_turnOnce_X6_liftedBy : GoodIn wsX6_turnOnce wsX6_liftedBy := goodIn_r _ [10, 2, 11, 12, 13, 14, 15, 16, 17, 18, 19, 20, 21, 35, 36, 37, 38, 39, 40, 41, 42, 43, 44, 45, 46, 47, 48, 49] (by decide +kernel) (by decide +kernel)
set_option maxRecDepth 20000 in
theorem gX6_turnOnce_X6_liftedBy : GoodIn wsX6_turnOnce (wsV RX6 94 RX6 yX6_liftedBy wsX6_liftedBy) := goodIn_app (goodIn_of _ (by decide +kernel)) ggX6_turnOnce_X6_liftedBy
set_option maxRecDepth 20000 in
theorem ggX6_turnOnce_X6_learnFrom : GoodIn wsX6_turnOnce wsX6_learnFrom := goodIn_r _ [25, 26, 27, 1, 28, 29, 30, 31, 32, 33, 34, 12, 13, 14, 15, 16, 17, 18, 19, 20, 21, 35, 36, 37, 38, 39, 40, 41, 42, 43, 44, 49] (by decide +kernel) (by decide +kernel)
set_option maxRecDepth 20000 in
theorem gX6_turnOnce_X6_learnFrom : GoodIn wsX6_turnOnce (wsV RX6 97 RX6 yX6_learnFrom wsX6_learnFrom) := goodIn_app (goodIn_of _ (by decide +kernel)) ggX6_turnOnce_X6_learnFrom
theorem dX6_turnOnce_0 : decode cX6_turnOnce 0 = .ok (.aload_n 0, 1) := by decide +kernel
theorem dX6_turnOnce_1 : decode cX6_turnOnce 1 = .ok (.aload_n 0, 1) := by decide +kernel
theorem dX6_turnOnce_2 : decode cX6_turnOnce 2 = .ok (.getfield 42, 3) := by decide +kernel
theorem dX6_turnOnce_5 : decode cX6_turnOnce 5 = .ok (.invokevirtual 94, 3) := by decide +kernel
theorem dX6_turnOnce_8 : decode cX6_turnOnce 8 = .ok (.istore_n 1, 1) := by decide +kernel
theorem dX6_turnOnce_9 : decode cX6_turnOnce 9 = .ok (.aload_n 0, 1) := by decide +kernel
theorem dX6_turnOnce_10 : decode cX6_turnOnce 10 = .ok (.dup, 1) := by decide +kernel
theorem dX6_turnOnce_11 : decode cX6_turnOnce 11 = .ok (.getfield 56, 3) := by decide +kernel
theorem dX6_turnOnce_14 : decode cX6_turnOnce 14 = .ok (.iload_n 1, 1) := by decide +kernel
theorem dX6_turnOnce_15 : decode cX6_turnOnce 15 = .ok (.iadd, 1) := by decide +kernel
theorem dX6_turnOnce_16 : decode cX6_turnOnce 16 = .ok (.putfield 56, 3) := by decide +kernel
theorem dX6_turnOnce_19 : decode cX6_turnOnce 19 = .ok (.aload_n 0, 1) := by decide +kernel
theorem dX6_turnOnce_20 : decode cX6_turnOnce 20 = .ok (.dup, 1) := by decide +kernel
theorem dX6_turnOnce_21 : decode cX6_turnOnce 21 = .ok (.getfield 59, 3) := by decide +kernel
theorem dX6_turnOnce_24 : decode cX6_turnOnce 24 = .ok (.iconst 1, 1) := by decide +kernel
theorem dX6_turnOnce_25 : decode cX6_turnOnce 25 = .ok (.iadd, 1) := by decide +kernel
theorem dX6_turnOnce_26 : decode cX6_turnOnce 26 = .ok (.putfield 59, 3) := by decide +kernel
theorem dX6_turnOnce_29 : decode cX6_turnOnce 29 = .ok (.iload_n 1, 1) := by decide +kernel
theorem dX6_turnOnce_30 : decode cX6_turnOnce 30 = .ok (.ifCond .ne 13, 3) := by decide +kernel
theorem dX6_turnOnce_33 : decode cX6_turnOnce 33 = .ok (.aload_n 0, 1) := by decide +kernel
theorem dX6_turnOnce_34 : decode cX6_turnOnce 34 = .ok (.dup, 1) := by decide +kernel
theorem dX6_turnOnce_35 : decode cX6_turnOnce 35 = .ok (.getfield 65, 3) := by decide +kernel
theorem dX6_turnOnce_38 : decode cX6_turnOnce 38 = .ok (.iconst 1, 1) := by decide +kernel
theorem dX6_turnOnce_39 : decode cX6_turnOnce 39 = .ok (.iadd, 1) := by decide +kernel
theorem dX6_turnOnce_40 : decode cX6_turnOnce 40 = .ok (.putfield 65, 3) := by decide +kernel
theorem dX6_turnOnce_43 : decode cX6_turnOnce 43 = .ok (.iload_n 1, 1) := by decide +kernel
theorem dX6_turnOnce_44 : decode cX6_turnOnce 44 = .ok (.iconst 1, 1) := by decide +kernel
theorem dX6_turnOnce_45 : decode cX6_turnOnce 45 = .ok (.if_icmp .le 13, 3) := by decide +kernel
theorem dX6_turnOnce_48 : decode cX6_turnOnce 48 = .ok (.aload_n 0, 1) := by decide +kernel
theorem dX6_turnOnce_49 : decode cX6_turnOnce 49 = .ok (.dup, 1) := by decide +kernel
theorem dX6_turnOnce_50 : decode cX6_turnOnce 50 = .ok (.getfield 62, 3) := by decide +kernel
theorem dX6_turnOnce_53 : decode cX6_turnOnce 53 = .ok (.iconst 1, 1) := by decide +kernel
theorem dX6_turnOnce_54 : decode cX6_turnOnce 54 = .ok (.iadd, 1) := by decide +kernel
theorem dX6_turnOnce_55 : decode cX6_turnOnce 55 = .ok (.putfield 62, 3) := by decide +kernel
theorem dX6_turnOnce_58 : decode cX6_turnOnce 58 = .ok (.aload_n 0, 1) := by decide +kernel
theorem dX6_turnOnce_59 : decode cX6_turnOnce 59 = .ok (.iload_n 1, 1) := by decide +kernel
theorem dX6_turnOnce_60 : decode cX6_turnOnce 60 = .ok (.invokevirtual 97, 3) := by decide +kernel
theorem dX6_turnOnce_63 : decode cX6_turnOnce 63 = .ok (.iload_n 1, 1) := by decide +kernel
theorem dX6_turnOnce_64 : decode cX6_turnOnce 64 = .ok (.ireturn, 1) := by decide +kernel
set_option maxRecDepth 20000 in
theorem ggX6_learnFrom_X3_at : GoodIn wsX6_learnFrom wsX3_at := goodIn_r _ [15, 16, 17, 18, 19, 14, 20, 31] (by decide +kernel) (by decide +kernel)
set_option maxRecDepth 20000 in
theorem gX6_learnFrom_X3_at : GoodIn wsX6_learnFrom (wsV RX6 87 RX3 yX3_at wsX3_at) := goodIn_app (goodIn_of _ (by decide +kernel)) ggX6_learnFrom_X3_at
theorem dX6_learnFrom_0 : decode cX6_learnFrom 0 = .ok (.iload_n 1, 1) := by decide +kernel
theorem dX6_learnFrom_1 : decode cX6_learnFrom 1 = .ok (.ifCond .ne 7, 3) := by decide +kernel
theorem dX6_learnFrom_4 : decode cX6_learnFrom 4 = .ok (.iconst 2, 1) := by decide +kernel
theorem dX6_learnFrom_5 : decode cX6_learnFrom 5 = .ok (.goto 4, 3) := by decide +kernel
theorem dX6_learnFrom_8 : decode cX6_learnFrom 8 = .ok (.iconst 1, 1) := by decide +kernel
theorem dX6_learnFrom_9 : decode cX6_learnFrom 9 = .ok (.istore_n 2, 1) := by decide +kernel
theorem dX6_learnFrom_10 : decode cX6_learnFrom 10 = .ok (.iload_n 1, 1) := by decide +kernel
theorem dX6_learnFrom_11 : decode cX6_learnFrom 11 = .ok (.iconst 1, 1) := by decide +kernel
theorem dX6_learnFrom_12 : decode cX6_learnFrom 12 = .ok (.if_icmp .ne 33, 3) := by decide +kernel
theorem dX6_learnFrom_15 : decode cX6_learnFrom 15 = .ok (.iconst 0, 1) := by decide +kernel
theorem dX6_learnFrom_16 : decode cX6_learnFrom 16 = .ok (.istore_n 2, 1) := by decide +kernel
theorem dX6_learnFrom_17 : decode cX6_learnFrom 17 = .ok (.aload_n 0, 1) := by decide +kernel
theorem dX6_learnFrom_18 : decode cX6_learnFrom 18 = .ok (.dup, 1) := by decide +kernel
theorem dX6_learnFrom_19 : decode cX6_learnFrom 19 = .ok (.getfield 68, 3) := by decide +kernel
theorem dX6_learnFrom_22 : decode cX6_learnFrom 22 = .ok (.iconst 1, 1) := by decide +kernel
theorem dX6_learnFrom_23 : decode cX6_learnFrom 23 = .ok (.iadd, 1) := by decide +kernel
theorem dX6_learnFrom_24 : decode cX6_learnFrom 24 = .ok (.putfield 68, 3) := by decide +kernel
theorem dX6_learnFrom_27 : decode cX6_learnFrom 27 = .ok (.aload_n 0, 1) := by decide +kernel
theorem dX6_learnFrom_28 : decode cX6_learnFrom 28 = .ok (.getfield 68, 3) := by decide +kernel
theorem dX6_learnFrom_31 : decode cX6_learnFrom 31 = .ok (.iconst 5, 1) := by decide +kernel
theorem dX6_learnFrom_32 : decode cX6_learnFrom 32 = .ok (.if_icmp .ne 18, 3) := by decide +kernel
theorem dX6_learnFrom_35 : decode cX6_learnFrom 35 = .ok (.iconst (-1), 1) := by decide +kernel
theorem dX6_learnFrom_36 : decode cX6_learnFrom 36 = .ok (.istore_n 2, 1) := by decide +kernel
theorem dX6_learnFrom_37 : decode cX6_learnFrom 37 = .ok (.aload_n 0, 1) := by decide +kernel
theorem dX6_learnFrom_38 : decode cX6_learnFrom 38 = .ok (.iconst 0, 1) := by decide +kernel
theorem dX6_learnFrom_39 : decode cX6_learnFrom 39 = .ok (.putfield 68, 3) := by decide +kernel
theorem dX6_learnFrom_42 : decode cX6_learnFrom 42 = .ok (.goto 8, 3) := by decide +kernel
theorem dX6_learnFrom_45 : decode cX6_learnFrom 45 = .ok (.aload_n 0, 1) := by decide +kernel
theorem dX6_learnFrom_46 : decode cX6_learnFrom 46 = .ok (.iconst 0, 1) := by decide +kernel
theorem dX6_learnFrom_47 : decode cX6_learnFrom 47 = .ok (.putfield 68, 3) := by decide +kernel
theorem dX6_learnFrom_50 : decode cX6_learnFrom 50 = .ok (.aload_n 0, 1) := by decide +kernel
theorem dX6_learnFrom_51 : decode cX6_learnFrom 51 = .ok (.getfield 34, 3) := by decide +kernel
theorem dX6_learnFrom_54 : decode cX6_learnFrom 54 = .ok (.iconst 1, 1) := by decide +kernel
theorem dX6_learnFrom_55 : decode cX6_learnFrom 55 = .ok (.invokevirtual 87, 3) := by decide +kernel
theorem dX6_learnFrom_58 : decode cX6_learnFrom 58 = .ok (.iconst 1, 1) := by decide +kernel
theorem dX6_learnFrom_59 : decode cX6_learnFrom 59 = .ok (.if_icmp .ne 22, 3) := by decide +kernel
theorem dX6_learnFrom_62 : decode cX6_learnFrom 62 = .ok (.aload_n 0, 1) := by decide +kernel
theorem dX6_learnFrom_63 : decode cX6_learnFrom 63 = .ok (.iconst 1, 1) := by decide +kernel
theorem dX6_learnFrom_64 : decode cX6_learnFrom 64 = .ok (.bipush 20, 2) := by decide +kernel
theorem dX6_learnFrom_66 : decode cX6_learnFrom 66 = .ok (.aload_n 0, 1) := by decide +kernel
theorem dX6_learnFrom_67 : decode cX6_learnFrom 67 = .ok (.getfield 42, 3) := by decide +kernel
theorem dX6_learnFrom_70 : decode cX6_learnFrom 70 = .ok (.iload_n 2, 1) := by decide +kernel
theorem dX6_learnFrom_71 : decode cX6_learnFrom 71 = .ok (.iadd, 1) := by decide +kernel
theorem dX6_learnFrom_72 : decode cX6_learnFrom 72 = .ok (.invokestatic 100, 3) := by decide +kernel
theorem dX6_learnFrom_75 : decode cX6_learnFrom 75 = .ok (.invokestatic 106, 3) := by decide +kernel
theorem dX6_learnFrom_78 : decode cX6_learnFrom 78 = .ok (.putfield 42, 3) := by decide +kernel
theorem dX6_learnFrom_81 : decode cX6_learnFrom 81 = .ok (.return_, 1) := by decide +kernel
set_option maxRecDepth 20000 in
theorem ggX6_gutterIsGood_X7_isRightPage : GoodIn wsX6_gutterIsGood wsX7_isRightPage := goodIn_r _ [5] (by decide +kernel) (by decide +kernel)
set_option maxRecDepth 20000 in
theorem gX6_gutterIsGood_X7_isRightPage_n109 : GoodIn wsX6_gutterIsGood (wsX7_isRightPage) := ggX6_gutterIsGood_X7_isRightPage
set_option maxRecDepth 20000 in
theorem ggX6_gutterIsGood_X3_at : GoodIn wsX6_gutterIsGood wsX3_at := goodIn_r _ [10, 11, 12, 13, 14, 9, 15, 30] (by decide +kernel) (by decide +kernel)
set_option maxRecDepth 20000 in
theorem gX6_gutterIsGood_X3_at : GoodIn wsX6_gutterIsGood (wsV RX6 87 RX3 yX3_at wsX3_at) := goodIn_app (goodIn_of _ (by decide +kernel)) ggX6_gutterIsGood_X3_at
theorem dX6_gutterIsGood_0 : decode cX6_gutterIsGood 0 = .ok (.iload_n 1, 1) := by decide +kernel
theorem dX6_gutterIsGood_1 : decode cX6_gutterIsGood 1 = .ok (.iconst 2, 1) := by decide +kernel
theorem dX6_gutterIsGood_2 : decode cX6_gutterIsGood 2 = .ok (.idiv, 1) := by decide +kernel
theorem dX6_gutterIsGood_3 : decode cX6_gutterIsGood 3 = .ok (.istore_n 2, 1) := by decide +kernel
theorem dX6_gutterIsGood_4 : decode cX6_gutterIsGood 4 = .ok (.iload_n 1, 1) := by decide +kernel
theorem dX6_gutterIsGood_5 : decode cX6_gutterIsGood 5 = .ok (.invokestatic 109, 3) := by decide +kernel
theorem dX6_gutterIsGood_8 : decode cX6_gutterIsGood 8 = .ok (.ifCond .eq 15, 3) := by decide +kernel
theorem dX6_gutterIsGood_11 : decode cX6_gutterIsGood 11 = .ok (.aload_n 0, 1) := by decide +kernel
theorem dX6_gutterIsGood_12 : decode cX6_gutterIsGood 12 = .ok (.getfield 12, 3) := by decide +kernel
theorem dX6_gutterIsGood_15 : decode cX6_gutterIsGood 15 = .ok (.getfield 77, 3) := by decide +kernel
theorem dX6_gutterIsGood_18 : decode cX6_gutterIsGood 18 = .ok (.iload_n 2, 1) := by decide +kernel
theorem dX6_gutterIsGood_19 : decode cX6_gutterIsGood 19 = .ok (.isub, 1) := by decide +kernel
theorem dX6_gutterIsGood_20 : decode cX6_gutterIsGood 20 = .ok (.goto 6, 3) := by decide +kernel
theorem dX6_gutterIsGood_23 : decode cX6_gutterIsGood 23 = .ok (.iload_n 2, 1) := by decide +kernel
theorem dX6_gutterIsGood_24 : decode cX6_gutterIsGood 24 = .ok (.iconst 1, 1) := by decide +kernel
theorem dX6_gutterIsGood_25 : decode cX6_gutterIsGood 25 = .ok (.iadd, 1) := by decide +kernel
theorem dX6_gutterIsGood_26 : decode cX6_gutterIsGood 26 = .ok (.istore_n 3, 1) := by decide +kernel
theorem dX6_gutterIsGood_27 : decode cX6_gutterIsGood 27 = .ok (.aload_n 0, 1) := by decide +kernel
theorem dX6_gutterIsGood_28 : decode cX6_gutterIsGood 28 = .ok (.getfield 34, 3) := by decide +kernel
theorem dX6_gutterIsGood_31 : decode cX6_gutterIsGood 31 = .ok (.iconst 0, 1) := by decide +kernel
theorem dX6_gutterIsGood_32 : decode cX6_gutterIsGood 32 = .ok (.invokevirtual 87, 3) := by decide +kernel
theorem dX6_gutterIsGood_35 : decode cX6_gutterIsGood 35 = .ok (.istore 4, 2) := by decide +kernel
theorem dX6_gutterIsGood_37 : decode cX6_gutterIsGood 37 = .ok (.iload_n 3, 1) := by decide +kernel
theorem dX6_gutterIsGood_38 : decode cX6_gutterIsGood 38 = .ok (.iload 4, 2) := by decide +kernel
theorem dX6_gutterIsGood_40 : decode cX6_gutterIsGood 40 = .ok (.if_icmp .ge 17, 3) := by decide +kernel
theorem dX6_gutterIsGood_43 : decode cX6_gutterIsGood 43 = .ok (.aload_n 0, 1) := by decide +kernel
theorem dX6_gutterIsGood_44 : decode cX6_gutterIsGood 44 = .ok (.getfield 12, 3) := by decide +kernel
theorem dX6_gutterIsGood_47 : decode cX6_gutterIsGood 47 = .ok (.getfield 77, 3) := by decide +kernel
theorem dX6_gutterIsGood_50 : decode cX6_gutterIsGood 50 = .ok (.iconst 2, 1) := by decide +kernel
theorem dX6_gutterIsGood_51 : decode cX6_gutterIsGood 51 = .ok (.iload 4, 2) := by decide +kernel
theorem dX6_gutterIsGood_53 : decode cX6_gutterIsGood 53 = .ok (.imul, 1) := by decide +kernel
theorem dX6_gutterIsGood_54 : decode cX6_gutterIsGood 54 = .ok (.if_icmp .ge 7, 3) := by decide +kernel
theorem dX6_gutterIsGood_57 : decode cX6_gutterIsGood 57 = .ok (.iconst 1, 1) := by decide +kernel
theorem dX6_gutterIsGood_58 : decode cX6_gutterIsGood 58 = .ok (.goto 4, 3) := by decide +kernel
theorem dX6_gutterIsGood_61 : decode cX6_gutterIsGood 61 = .ok (.iconst 0, 1) := by decide +kernel
theorem dX6_gutterIsGood_62 : decode cX6_gutterIsGood 62 = .ok (.ireturn, 1) := by decide +kernel
set_option maxRecDepth 20000 in
theorem ggX6_pagesOpen_X6_openOnLeft : GoodIn wsX6_pagesOpen wsX6_openOnLeft := goodIn_r _ [5, 6, 19, 20, 21, 22, 23, 24, 25, 26, 27, 28] (by decide +kernel) (by decide +kernel)
set_option maxRecDepth 20000 in
theorem gX6_pagesOpen_X6_openOnLeft : GoodIn wsX6_pagesOpen (wsV RX6 113 RX6 yX6_openOnLeft wsX6_openOnLeft) := goodIn_app (goodIn_of _ (by decide +kernel)) ggX6_pagesOpen_X6_openOnLeft
set_option maxRecDepth 20000 in
theorem ggX6_pagesOpen_X7_asNumber : GoodIn wsX6_pagesOpen wsX7_asNumber := goodIn_r _ [9] (by decide +kernel) (by decide +kernel)
set_option maxRecDepth 20000 in
theorem gX6_pagesOpen_X7_asNumber_n116 : GoodIn wsX6_pagesOpen (wsX7_asNumber) := ggX6_pagesOpen_X7_asNumber
set_option maxRecDepth 20000 in
theorem ggX6_pagesOpen_X6_openOnRight : GoodIn wsX6_pagesOpen wsX6_openOnRight := goodIn_r _ [13, 6, 14, 15, 16, 4, 17, 18, 19, 20, 21, 22, 23, 24, 25, 26, 27, 28, 29, 30, 31, 32] (by decide +kernel) (by decide +kernel)
set_option maxRecDepth 20000 in
theorem gX6_pagesOpen_X6_openOnRight : GoodIn wsX6_pagesOpen (wsV RX6 120 RX6 yX6_openOnRight wsX6_openOnRight) := goodIn_app (goodIn_of _ (by decide +kernel)) ggX6_pagesOpen_X6_openOnRight
theorem dX6_pagesOpen_0 : decode cX6_pagesOpen 0 = .ok (.aload_n 0, 1) := by decide +kernel
theorem dX6_pagesOpen_1 : decode cX6_pagesOpen 1 = .ok (.invokevirtual 113, 3) := by decide +kernel
theorem dX6_pagesOpen_4 : decode cX6_pagesOpen 4 = .ok (.bipush (-5), 2) := by decide +kernel
theorem dX6_pagesOpen_6 : decode cX6_pagesOpen 6 = .ok (.if_icmp .eq 7, 3) := by decide +kernel
theorem dX6_pagesOpen_9 : decode cX6_pagesOpen 9 = .ok (.iconst 1, 1) := by decide +kernel
theorem dX6_pagesOpen_10 : decode cX6_pagesOpen 10 = .ok (.goto 4, 3) := by decide +kernel
theorem dX6_pagesOpen_13 : decode cX6_pagesOpen 13 = .ok (.iconst 0, 1) := by decide +kernel
theorem dX6_pagesOpen_14 : decode cX6_pagesOpen 14 = .ok (.invokestatic 116, 3) := by decide +kernel
theorem dX6_pagesOpen_17 : decode cX6_pagesOpen 17 = .ok (.aload_n 0, 1) := by decide +kernel
theorem dX6_pagesOpen_18 : decode cX6_pagesOpen 18 = .ok (.invokevirtual 120, 3) := by decide +kernel
theorem dX6_pagesOpen_21 : decode cX6_pagesOpen 21 = .ok (.bipush (-5), 2) := by decide +kernel
theorem dX6_pagesOpen_23 : decode cX6_pagesOpen 23 = .ok (.if_icmp .eq 7, 3) := by decide +kernel
theorem dX6_pagesOpen_26 : decode cX6_pagesOpen 26 = .ok (.iconst 1, 1) := by decide +kernel
theorem dX6_pagesOpen_27 : decode cX6_pagesOpen 27 = .ok (.goto 4, 3) := by decide +kernel
theorem dX6_pagesOpen_30 : decode cX6_pagesOpen 30 = .ok (.iconst 0, 1) := by decide +kernel
theorem dX6_pagesOpen_31 : decode cX6_pagesOpen 31 = .ok (.invokestatic 116, 3) := by decide +kernel
theorem dX6_pagesOpen_34 : decode cX6_pagesOpen 34 = .ok (.iadd, 1) := by decide +kernel
theorem dX6_pagesOpen_35 : decode cX6_pagesOpen 35 = .ok (.ireturn, 1) := by decide +kernel
set_option maxRecDepth 20000 in
theorem ggX6_hasRoomForPair_X6_pagesOpen : GoodIn wsX6_hasRoomForPair wsX6_pagesOpen := goodIn_r _ [6, 7, 8, 9, 5, 10, 11, 12, 13, 14, 15, 16, 17, 18, 19, 20, 21, 22, 23, 24, 25, 26, 27, 28, 29, 30, 31, 32, 33, 39, 40, 41, 42] (by decide +kernel) (by decide +kernel)
set_option maxRecDepth 20000 in
theorem gX6_hasRoomForPair_X6_pagesOpen : GoodIn wsX6_hasRoomForPair (wsV RX6 123 RX6 yX6_pagesOpen wsX6_pagesOpen) := goodIn_app (goodIn_of _ (by decide +kernel)) ggX6_hasRoomForPair_X6_pagesOpen
theorem dX6_hasRoomForPair_0 : decode cX6_hasRoomForPair 0 = .ok (.aload_n 0, 1) := by decide +kernel
theorem dX6_hasRoomForPair_1 : decode cX6_hasRoomForPair 1 = .ok (.getfield 21, 3) := by decide +kernel
theorem dX6_hasRoomForPair_4 : decode cX6_hasRoomForPair 4 = .ok (.getfield 74, 3) := by decide +kernel
theorem dX6_hasRoomForPair_7 : decode cX6_hasRoomForPair 7 = .ok (.aload_n 0, 1) := by decide +kernel
theorem dX6_hasRoomForPair_8 : decode cX6_hasRoomForPair 8 = .ok (.invokevirtual 123, 3) := by decide +kernel
theorem dX6_hasRoomForPair_11 : decode cX6_hasRoomForPair 11 = .ok (.iadd, 1) := by decide +kernel
theorem dX6_hasRoomForPair_12 : decode cX6_hasRoomForPair 12 = .ok (.bipush 80, 2) := by decide +kernel
theorem dX6_hasRoomForPair_14 : decode cX6_hasRoomForPair 14 = .ok (.if_icmp .gt 7, 3) := by decide +kernel
theorem dX6_hasRoomForPair_17 : decode cX6_hasRoomForPair 17 = .ok (.iconst 1, 1) := by decide +kernel
theorem dX6_hasRoomForPair_18 : decode cX6_hasRoomForPair 18 = .ok (.goto 4, 3) := by decide +kernel
theorem dX6_hasRoomForPair_21 : decode cX6_hasRoomForPair 21 = .ok (.iconst 0, 1) := by decide +kernel
theorem dX6_hasRoomForPair_22 : decode cX6_hasRoomForPair 22 = .ok (.ireturn, 1) := by decide +kernel
set_option maxRecDepth 20000 in
theorem ggX6_takePair_X6_pagesOpen : GoodIn wsX6_takePair wsX6_pagesOpen := goodIn_r _ [6, 7, 8, 9, 5, 10, 11, 12, 13, 14, 15, 16, 17, 18, 19, 20, 21, 22, 23, 60, 61, 62, 63, 64, 65, 66, 67, 68, 69, 70, 71, 72, 73] (by decide +kernel) (by decide +kernel)
set_option maxRecDepth 20000 in
theorem gX6_takePair_X6_pagesOpen : GoodIn wsX6_takePair (wsV RX6 123 RX6 yX6_pagesOpen wsX6_pagesOpen) := goodIn_app (goodIn_of _ (by decide +kernel)) ggX6_takePair_X6_pagesOpen
set_option maxRecDepth 20000 in
theorem ggX6_takePair_X6_openOnLeft : GoodIn wsX6_takePair wsX6_openOnLeft := goodIn_r _ [10, 11, 60, 61, 62, 63, 64, 65, 66, 67, 68, 69] (by decide +kernel) (by decide +kernel)
set_option maxRecDepth 20000 in
theorem gX6_takePair_X6_openOnLeft : GoodIn wsX6_takePair (wsV RX6 113 RX6 yX6_openOnLeft wsX6_openOnLeft) := goodIn_app (goodIn_of _ (by decide +kernel)) ggX6_takePair_X6_openOnLeft
set_option maxRecDepth 20000 in
theorem ggX6_takePair_X6_takePicture : GoodIn wsX6_takePair wsX6_takePicture := goodIn_r _ [27, 23, 28, 1, 29, 30, 31, 5, 32, 33, 34, 13, 35, 36, 37, 38, 39, 40, 41, 42, 43, 44, 45, 46, 47, 48, 49, 50, 51, 52, 53, 54, 55, 56, 57, 58, 59, 12, 14, 60, 61, 62, 63, 64, 65, 66, 67, 68, 69, 70, 71, 72, 73, 74, 75, 76, 77, 78, 79] (by decide +kernel) (by decide +kernel)
set_option maxRecDepth 20000 in
theorem gX6_takePair_X6_takePicture : GoodIn wsX6_takePair (wsV RX6 126 RX6 yX6_takePicture wsX6_takePicture) := goodIn_app (goodIn_of _ (by decide +kernel)) ggX6_takePair_X6_takePicture
set_option maxRecDepth 20000 in
theorem ggX6_takePair_X6_openOnRight : GoodIn wsX6_takePair wsX6_openOnRight := goodIn_r _ [18, 11, 19, 20, 21, 5, 22, 23, 60, 61, 62, 63, 64, 65, 66, 67, 68, 69, 70, 71, 72, 73] (by decide +kernel) (by decide +kernel)
set_option maxRecDepth 20000 in
theorem gX6_takePair_X6_openOnRight : GoodIn wsX6_takePair (wsV RX6 120 RX6 yX6_openOnRight wsX6_openOnRight) := goodIn_app (goodIn_of _ (by decide +kernel)) ggX6_takePair_X6_openOnRight
theorem dX6_takePair_0 : decode cX6_takePair 0 = .ok (.aload_n 0, 1) := by decide +kernel
theorem dX6_takePair_1 : decode cX6_takePair 1 = .ok (.invokevirtual 123, 3) := by decide +kernel
theorem dX6_takePair_4 : decode cX6_takePair 4 = .ok (.istore_n 1, 1) := by decide +kernel
theorem dX6_takePair_5 : decode cX6_takePair 5 = .ok (.aload_n 0, 1) := by decide +kernel
theorem dX6_takePair_6 : decode cX6_takePair 6 = .ok (.invokevirtual 113, 3) := by decide +kernel
theorem dX6_takePair_9 : decode cX6_takePair 9 = .ok (.bipush (-5), 2) := by decide +kernel
theorem dX6_takePair_11 : decode cX6_takePair 11 = .ok (.if_icmp .eq 11, 3) := by decide +kernel
theorem dX6_takePair_14 : decode cX6_takePair 14 = .ok (.aload_n 0, 1) := by decide +kernel
theorem dX6_takePair_15 : decode cX6_takePair 15 = .ok (.aload_n 0, 1) := by decide +kernel
theorem dX6_takePair_16 : decode cX6_takePair 16 = .ok (.invokevirtual 113, 3) := by decide +kernel
theorem dX6_takePair_19 : decode cX6_takePair 19 = .ok (.invokevirtual 126, 3) := by decide +kernel
theorem dX6_takePair_22 : decode cX6_takePair 22 = .ok (.aload_n 0, 1) := by decide +kernel
theorem dX6_takePair_23 : decode cX6_takePair 23 = .ok (.invokevirtual 120, 3) := by decide +kernel
theorem dX6_takePair_26 : decode cX6_takePair 26 = .ok (.bipush (-5), 2) := by decide +kernel
theorem dX6_takePair_28 : decode cX6_takePair 28 = .ok (.if_icmp .eq 11, 3) := by decide +kernel
theorem dX6_takePair_31 : decode cX6_takePair 31 = .ok (.aload_n 0, 1) := by decide +kernel
theorem dX6_takePair_32 : decode cX6_takePair 32 = .ok (.aload_n 0, 1) := by decide +kernel
theorem dX6_takePair_33 : decode cX6_takePair 33 = .ok (.invokevirtual 120, 3) := by decide +kernel
theorem dX6_takePair_36 : decode cX6_takePair 36 = .ok (.invokevirtual 126, 3) := by decide +kernel
theorem dX6_takePair_39 : decode cX6_takePair 39 = .ok (.aload_n 0, 1) := by decide +kernel
theorem dX6_takePair_40 : decode cX6_takePair 40 = .ok (.dup, 1) := by decide +kernel
theorem dX6_takePair_41 : decode cX6_takePair 41 = .ok (.getfield 71, 3) := by decide +kernel
theorem dX6_takePair_44 : decode cX6_takePair 44 = .ok (.iconst 1, 1) := by decide +kernel
theorem dX6_takePair_45 : decode cX6_takePair 45 = .ok (.iadd, 1) := by decide +kernel
theorem dX6_takePair_46 : decode cX6_takePair 46 = .ok (.putfield 71, 3) := by decide +kernel
theorem dX6_takePair_49 : decode cX6_takePair 49 = .ok (.iload_n 1, 1) := by decide +kernel
theorem dX6_takePair_50 : decode cX6_takePair 50 = .ok (.ireturn, 1) := by decide +kernel
set_option maxRecDepth 20000 in
theorem ggX6_takePicture_X6_gutterIsGood : GoodIn wsX6_takePicture wsX6_gutterIsGood := goodIn_r _ [8, 1, 9, 10, 11, 12, 13, 14, 15, 16, 17, 18, 19, 20, 21, 22, 39, 40, 41, 42, 43, 44, 45, 46, 47, 48, 49, 50, 51, 52, 53] (by decide +kernel) (by decide +kernel)
set_option maxRecDepth 20000 in
theorem gX6_takePicture_X6_gutterIsGood : GoodIn wsX6_takePicture (wsV RX6 129 RX6 yX6_gutterIsGood wsX6_gutterIsGood) := goodIn_app (goodIn_of _ (by decide +kernel)) ggX6_takePicture_X6_gutterIsGood
set_option maxRecDepth 20000 in
theorem ggX6_takePicture_X3_at : GoodIn wsX6_takePicture wsX3_at := goodIn_r _ [17, 18, 19, 20, 21, 16, 22, 53] (by decide +kernel) (by decide +kernel)
set_option maxRecDepth 20000 in
theorem gX6_takePicture_X3_at : GoodIn wsX6_takePicture (wsV RX6 87 RX3 yX3_at wsX3_at) := goodIn_app (goodIn_of _ (by decide +kernel)) ggX6_takePicture_X3_at
set_option maxRecDepth 20000 in
theorem ggX6_takePicture_X5_add : GoodIn wsX6_takePicture wsX5_add := goodIn_r _ [27, 28, 29, 30, 31, 32, 33, 34, 35, 16, 36, 18, 19, 20, 21, 22, 37, 11, 38, 54, 55, 56, 57, 58, 53] (by decide +kernel) (by decide +kernel)
set_option maxRecDepth 20000 in
theorem gX6_takePicture_X5_add : GoodIn wsX6_takePicture (wsV RX6 135 RX5 yX5_add wsX5_add) := goodIn_app (goodIn_of _ (by decide +kernel)) ggX6_takePicture_X5_add
theorem dX6_takePicture_0 : decode cX6_takePicture 0 = .ok (.aload_n 0, 1) := by decide +kernel
theorem dX6_takePicture_1 : decode cX6_takePicture 1 = .ok (.iload_n 1, 1) := by decide +kernel
theorem dX6_takePicture_2 : decode cX6_takePicture 2 = .ok (.invokevirtual 129, 3) := by decide +kernel
theorem dX6_takePicture_5 : decode cX6_takePicture 5 = .ok (.istore_n 2, 1) := by decide +kernel
theorem dX6_takePicture_6 : decode cX6_takePicture 6 = .ok (.aload_n 0, 1) := by decide +kernel
theorem dX6_takePicture_7 : decode cX6_takePicture 7 = .ok (.getfield 12, 3) := by decide +kernel
theorem dX6_takePicture_10 : decode cX6_takePicture 10 = .ok (.getfield 132, 3) := by decide +kernel
theorem dX6_takePicture_13 : decode cX6_takePicture 13 = .ok (.iload_n 1, 1) := by decide +kernel
theorem dX6_takePicture_14 : decode cX6_takePicture 14 = .ok (.invokevirtual 87, 3) := by decide +kernel
theorem dX6_takePicture_17 : decode cX6_takePicture 17 = .ok (.istore_n 3, 1) := by decide +kernel
theorem dX6_takePicture_18 : decode cX6_takePicture 18 = .ok (.iload_n 2, 1) := by decide +kernel
theorem dX6_takePicture_19 : decode cX6_takePicture 19 = .ok (.ifCond .ne 14, 3) := by decide +kernel
theorem dX6_takePicture_22 : decode cX6_takePicture 22 = .ok (.iload_n 3, 1) := by decide +kernel
theorem dX6_takePicture_23 : decode cX6_takePicture 23 = .ok (.bipush (-5), 2) := by decide +kernel
theorem dX6_takePicture_25 : decode cX6_takePicture 25 = .ok (.if_icmp .eq 8, 3) := by decide +kernel
theorem dX6_takePicture_28 : decode cX6_takePicture 28 = .ok (.iload_n 3, 1) := by decide +kernel
theorem dX6_takePicture_29 : decode cX6_takePicture 29 = .ok (.bipush 10, 2) := by decide +kernel
theorem dX6_takePicture_31 : decode cX6_takePicture 31 = .ok (.idiv, 1) := by decide +kernel
theorem dX6_takePicture_32 : decode cX6_takePicture 32 = .ok (.istore_n 3, 1) := by decide +kernel
theorem dX6_takePicture_33 : decode cX6_takePicture 33 = .ok (.aload_n 0, 1) := by decide +kernel
theorem dX6_takePicture_34 : decode cX6_takePicture 34 = .ok (.getfield 21, 3) := by decide +kernel
theorem dX6_takePicture_37 : decode cX6_takePicture 37 = .ok (.iload_n 1, 1) := by decide +kernel
theorem dX6_takePicture_38 : decode cX6_takePicture 38 = .ok (.iload_n 3, 1) := by decide +kernel
theorem dX6_takePicture_39 : decode cX6_takePicture 39 = .ok (.iload_n 2, 1) := by decide +kernel
theorem dX6_takePicture_40 : decode cX6_takePicture 40 = .ok (.aload_n 0, 1) := by decide +kernel
theorem dX6_takePicture_41 : decode cX6_takePicture 41 = .ok (.getfield 71, 3) := by decide +kernel
theorem dX6_takePicture_44 : decode cX6_takePicture 44 = .ok (.invokevirtual 135, 3) := by decide +kernel
theorem dX6_takePicture_47 : decode cX6_takePicture 47 = .ok (.return_, 1) := by decide +kernel
set_option maxRecDepth 20000 in
theorem ggX6_takeAndTurn_X6_leavesOnRight : GoodIn wsX6_takeAndTurn wsX6_leavesOnRight := goodIn_r _ [5, 6, 7, 92, 93, 94, 95, 96, 97, 98, 99, 100, 101, 102, 103, 104, 105] (by decide +kernel) (by decide +kernel)
set_option maxRecDepth 20000 in
theorem gX6_takeAndTurn_X6_leavesOnRight : GoodIn wsX6_takeAndTurn (wsV RX6 80 RX6 yX6_leavesOnRight wsX6_leavesOnRight) := goodIn_app (goodIn_of _ (by decide +kernel)) ggX6_takeAndTurn_X6_leavesOnRight
set_option maxRecDepth 20000 in
theorem ggX6_takeAndTurn_X6_hasRoomForPair : GoodIn wsX6_takeAndTurn wsX6_hasRoomForPair := goodIn_r _ [11, 12, 13, 14, 15, 4, 16, 17, 18, 19, 20, 7, 21, 22, 23, 24, 25, 26, 27, 1, 2, 3, 5, 6, 92, 93, 94, 95, 96, 97, 98, 99, 100, 101, 106, 107, 108, 109, 110, 102, 103, 104, 105] (by decide +kernel) (by decide +kernel)
set_option maxRecDepth 20000 in
theorem gX6_takeAndTurn_X6_hasRoomForPair : GoodIn wsX6_takeAndTurn (wsV RX6 139 RX6 yX6_hasRoomForPair wsX6_hasRoomForPair) := goodIn_app (goodIn_of _ (by decide +kernel)) ggX6_takeAndTurn_X6_hasRoomForPair
set_option maxRecDepth 20000 in
theorem ggX6_takeAndTurn_X6_takePair : GoodIn wsX6_takeAndTurn wsX6_takePair := goodIn_r _ [31, 32, 13, 14, 15, 4, 16, 17, 18, 19, 20, 7, 21, 22, 23, 24, 25, 26, 27, 1, 2, 3, 5, 6, 33, 34, 35, 36, 12, 37, 38, 39, 40, 41, 42, 43, 44, 45, 46, 47, 48, 49, 50, 51, 52, 53, 54, 55, 56, 57, 58, 59, 60, 61, 62, 63, 64, 65, 66, 67, 92, 93, 94, 95, 96, 97, 98, 99, 100, 101, 102, 103, 104, 105, 111, 106, 107, 108, 109, 110] (by decide +kernel) (by decide +kernel)
set_option maxRecDepth 20000 in
theorem gX6_takeAndTurn_X6_takePair : GoodIn wsX6_takeAndTurn (wsV RX6 143 RX6 yX6_takePair wsX6_takePair) := goodIn_app (goodIn_of _ (by decide +kernel)) ggX6_takeAndTurn_X6_takePair
set_option maxRecDepth 20000 in
theorem ggX6_takeAndTurn_X6_turnOnce : GoodIn wsX6_takeAndTurn wsX6_turnOnce := goodIn_r _ [71, 72, 7, 73, 74, 75, 76, 77, 78, 4, 79, 6, 44, 45, 46, 47, 48, 49, 50, 51, 52, 53, 80, 81, 82, 83, 84, 41, 85, 86, 87, 88, 89, 90, 91, 92, 93, 94, 95, 96, 97, 98, 99, 100, 101, 102, 103, 104, 105, 111] (by decide +kernel) (by decide +kernel)
set_option maxRecDepth 20000 in
theorem gX6_takeAndTurn_X6_turnOnce : GoodIn wsX6_takeAndTurn (wsV RX6 146 RX6 yX6_turnOnce wsX6_turnOnce) := goodIn_app (goodIn_of _ (by decide +kernel)) ggX6_takeAndTurn_X6_turnOnce
theorem dX6_takeAndTurn_0 : decode cX6_takeAndTurn 0 = .ok (.iconst 0, 1) := by decide +kernel
theorem dX6_takeAndTurn_1 : decode cX6_takeAndTurn 1 = .ok (.istore_n 2, 1) := by decide +kernel
theorem dX6_takeAndTurn_2 : decode cX6_takeAndTurn 2 = .ok (.iconst 0, 1) := by decide +kernel
theorem dX6_takeAndTurn_3 : decode cX6_takeAndTurn 3 = .ok (.istore_n 3, 1) := by decide +kernel
theorem dX6_takeAndTurn_4 : decode cX6_takeAndTurn 4 = .ok (.iload_n 3, 1) := by decide +kernel
theorem dX6_takeAndTurn_5 : decode cX6_takeAndTurn 5 = .ok (.iload_n 1, 1) := by decide +kernel
theorem dX6_takeAndTurn_6 : decode cX6_takeAndTurn 6 = .ok (.if_icmp .ge 38, 3) := by decide +kernel
theorem dX6_takeAndTurn_9 : decode cX6_takeAndTurn 9 = .ok (.aload_n 0, 1) := by decide +kernel
theorem dX6_takeAndTurn_10 : decode cX6_takeAndTurn 10 = .ok (.invokevirtual 80, 3) := by decide +kernel
theorem dX6_takeAndTurn_13 : decode cX6_takeAndTurn 13 = .ok (.ifCond .le 31, 3) := by decide +kernel
theorem dX6_takeAndTurn_16 : decode cX6_takeAndTurn 16 = .ok (.aload_n 0, 1) := by decide +kernel
theorem dX6_takeAndTurn_17 : decode cX6_takeAndTurn 17 = .ok (.invokevirtual 139, 3) := by decide +kernel
theorem dX6_takeAndTurn_20 : decode cX6_takeAndTurn 20 = .ok (.ifCond .ne 6, 3) := by decide +kernel
theorem dX6_takeAndTurn_23 : decode cX6_takeAndTurn 23 = .ok (.bipush (-3), 2) := by decide +kernel
theorem dX6_takeAndTurn_25 : decode cX6_takeAndTurn 25 = .ok (.ireturn, 1) := by decide +kernel
theorem dX6_takeAndTurn_26 : decode cX6_takeAndTurn 26 = .ok (.iload_n 2, 1) := by decide +kernel
theorem dX6_takeAndTurn_27 : decode cX6_takeAndTurn 27 = .ok (.aload_n 0, 1) := by decide +kernel
theorem dX6_takeAndTurn_28 : decode cX6_takeAndTurn 28 = .ok (.invokevirtual 143, 3) := by decide +kernel
theorem dX6_takeAndTurn_31 : decode cX6_takeAndTurn 31 = .ok (.iadd, 1) := by decide +kernel
theorem dX6_takeAndTurn_32 : decode cX6_takeAndTurn 32 = .ok (.istore_n 2, 1) := by decide +kernel
theorem dX6_takeAndTurn_33 : decode cX6_takeAndTurn 33 = .ok (.aload_n 0, 1) := by decide +kernel
theorem dX6_takeAndTurn_34 : decode cX6_takeAndTurn 34 = .ok (.invokevirtual 146, 3) := by decide +kernel
theorem dX6_takeAndTurn_37 : decode cX6_takeAndTurn 37 = .ok (.pop, 1) := by decide +kernel
theorem dX6_takeAndTurn_38 : decode cX6_takeAndTurn 38 = .ok (.iinc 3 1, 3) := by decide +kernel
theorem dX6_takeAndTurn_41 : decode cX6_takeAndTurn 41 = .ok (.goto (-37), 3) := by decide +kernel
theorem dX6_takeAndTurn_44 : decode cX6_takeAndTurn 44 = .ok (.aload_n 0, 1) := by decide +kernel
theorem dX6_takeAndTurn_45 : decode cX6_takeAndTurn 45 = .ok (.invokevirtual 80, 3) := by decide +kernel
theorem dX6_takeAndTurn_48 : decode cX6_takeAndTurn 48 = .ok (.ifCond .le 5, 3) := by decide +kernel
theorem dX6_takeAndTurn_51 : decode cX6_takeAndTurn 51 = .ok (.iload_n 2, 1) := by decide +kernel
theorem dX6_takeAndTurn_52 : decode cX6_takeAndTurn 52 = .ok (.ireturn, 1) := by decide +kernel
theorem dX6_takeAndTurn_53 : decode cX6_takeAndTurn 53 = .ok (.aload_n 0, 1) := by decide +kernel
theorem dX6_takeAndTurn_54 : decode cX6_takeAndTurn 54 = .ok (.invokevirtual 139, 3) := by decide +kernel
theorem dX6_takeAndTurn_57 : decode cX6_takeAndTurn 57 = .ok (.ifCond .ne 6, 3) := by decide +kernel
theorem dX6_takeAndTurn_60 : decode cX6_takeAndTurn 60 = .ok (.bipush (-3), 2) := by decide +kernel
theorem dX6_takeAndTurn_62 : decode cX6_takeAndTurn 62 = .ok (.ireturn, 1) := by decide +kernel
theorem dX6_takeAndTurn_63 : decode cX6_takeAndTurn 63 = .ok (.iload_n 2, 1) := by decide +kernel
theorem dX6_takeAndTurn_64 : decode cX6_takeAndTurn 64 = .ok (.aload_n 0, 1) := by decide +kernel
theorem dX6_takeAndTurn_65 : decode cX6_takeAndTurn 65 = .ok (.invokevirtual 143, 3) := by decide +kernel
theorem dX6_takeAndTurn_68 : decode cX6_takeAndTurn 68 = .ok (.iadd, 1) := by decide +kernel
theorem dX6_takeAndTurn_69 : decode cX6_takeAndTurn 69 = .ok (.ireturn, 1) := by decide +kernel
set_option maxRecDepth 20000 in
theorem ggX7_init_X6_init : GoodIn wsX7_init wsX6_init := goodIn_r _ [25, 26, 2, 3, 27, 28, 29, 30, 31, 32, 33, 34, 35, 36, 37, 38, 39, 40, 41, 42, 43, 44, 45, 46, 47, 48, 49, 50, 51, 52, 53, 54, 55, 56, 57, 58, 59, 60, 61, 62, 63, 64, 65, 66, 67, 68, 69, 70, 71, 72, 73, 74, 75, 76, 77, 78, 127, 128, 129, 130, 102, 103, 104, 105, 106, 107, 108, 109, 110, 111, 131, 132, 133, 134, 135, 136] (by decide +kernel) (by decide +kernel)
set_option maxRecDepth 20000 in
theorem gX7_init_X6_init : GoodIn wsX7_init (wsX6_init) := ggX7_init_X6_init
set_option maxRecDepth 20000 in
theorem ggX7_init_X2_init : GoodIn wsX7_init wsX2_init := goodIn_r _ [81, 82, 2, 3, 83, 84, 5, 6, 85, 86, 24, 25, 26, 27, 28, 29, 30, 31, 32, 33, 34, 35, 36, 37, 38, 39, 40, 41, 42, 43, 44, 45, 46, 47, 48, 49, 50, 51, 52, 53, 54, 55, 56, 57, 58, 59, 60, 61, 62, 63, 64, 65, 66, 67, 68, 69, 70, 71, 72, 73, 74, 75, 76, 77, 78, 119, 120, 102, 103, 104, 105, 106, 107, 108, 109, 110, 111, 127, 128, 129, 130, 131, 132, 133, 134, 135, 136] (by decide +kernel) (by decide +kernel)
set_option maxRecDepth 20000 in
theorem gX7_init_X2_init : GoodIn wsX7_init (wsX2_init) := ggX7_init_X2_init
set_option maxRecDepth 20000 in
theorem ggX7_init_X1_init : GoodIn wsX7_init wsX1_init := goodIn_r _ [89, 90, 2, 3, 91, 92, 93, 121, 122] (by decide +kernel) (by decide +kernel)
set_option maxRecDepth 20000 in
theorem gX7_init_X1_init : GoodIn wsX7_init (wsX1_init) := ggX7_init_X1_init
set_option maxRecDepth 20000 in
theorem ggX7_init_X4_init : GoodIn wsX7_init wsX4_init := goodIn_r _ [96, 97, 2, 3, 98, 36, 37, 99, 100, 101, 50, 51, 52, 53, 54, 55, 56, 57, 58, 136, 123, 124, 125, 126] (by decide +kernel) (by decide +kernel)
set_option maxRecDepth 20000 in
theorem gX7_init_X4_init : GoodIn wsX7_init (wsX4_init) := ggX7_init_X4_init
theorem dX7_init_0 : decode cX7_init 0 = .ok (.aload_n 0, 1) := by decide +kernel
theorem dX7_init_1 : decode cX7_init 1 = .ok (.invokespecial 1, 3) := by decide +kernel
theorem dX7_init_4 : decode cX7_init 4 = .ok (.aload_n 0, 1) := by decide +kernel
theorem dX7_init_5 : decode cX7_init 5 = .ok (.new 7, 3) := by decide +kernel
theorem dX7_init_8 : decode cX7_init 8 = .ok (.dup, 1) := by decide +kernel
theorem dX7_init_9 : decode cX7_init 9 = .ok (.invokespecial 9, 3) := by decide +kernel
theorem dX7_init_12 : decode cX7_init 12 = .ok (.putfield 10, 3) := by decide +kernel
theorem dX7_init_15 : decode cX7_init 15 = .ok (.aload_n 0, 1) := by decide +kernel
theorem dX7_init_16 : decode cX7_init 16 = .ok (.new 7, 3) := by decide +kernel
theorem dX7_init_19 : decode cX7_init 19 = .ok (.dup, 1) := by decide +kernel
theorem dX7_init_20 : decode cX7_init 20 = .ok (.invokespecial 9, 3) := by decide +kernel
theorem dX7_init_23 : decode cX7_init 23 = .ok (.putfield 16, 3) := by decide +kernel
theorem dX7_init_26 : decode cX7_init 26 = .ok (.aload_n 0, 1) := by decide +kernel
theorem dX7_init_27 : decode cX7_init 27 = .ok (.new 7, 3) := by decide +kernel
theorem dX7_init_30 : decode cX7_init 30 = .ok (.dup, 1) := by decide +kernel
theorem dX7_init_31 : decode cX7_init 31 = .ok (.invokespecial 9, 3) := by decide +kernel
theorem dX7_init_34 : decode cX7_init 34 = .ok (.putfield 19, 3) := by decide +kernel
theorem dX7_init_37 : decode cX7_init 37 = .ok (.aload_n 0, 1) := by decide +kernel
theorem dX7_init_38 : decode cX7_init 38 = .ok (.new 22, 3) := by decide +kernel
theorem dX7_init_41 : decode cX7_init 41 = .ok (.dup, 1) := by decide +kernel
theorem dX7_init_42 : decode cX7_init 42 = .ok (.invokespecial 24, 3) := by decide +kernel
theorem dX7_init_45 : decode cX7_init 45 = .ok (.putfield 25, 3) := by decide +kernel
theorem dX7_init_48 : decode cX7_init 48 = .ok (.aload_n 0, 1) := by decide +kernel
theorem dX7_init_49 : decode cX7_init 49 = .ok (.new 29, 3) := by decide +kernel
theorem dX7_init_52 : decode cX7_init 52 = .ok (.dup, 1) := by decide +kernel
theorem dX7_init_53 : decode cX7_init 53 = .ok (.invokespecial 31, 3) := by decide +kernel
theorem dX7_init_56 : decode cX7_init 56 = .ok (.putfield 32, 3) := by decide +kernel
theorem dX7_init_59 : decode cX7_init 59 = .ok (.aload_n 0, 1) := by decide +kernel
theorem dX7_init_60 : decode cX7_init 60 = .ok (.new 36, 3) := by decide +kernel
theorem dX7_init_63 : decode cX7_init 63 = .ok (.dup, 1) := by decide +kernel
theorem dX7_init_64 : decode cX7_init 64 = .ok (.invokespecial 38, 3) := by decide +kernel
theorem dX7_init_67 : decode cX7_init 67 = .ok (.putfield 39, 3) := by decide +kernel
theorem dX7_init_70 : decode cX7_init 70 = .ok (.aload_n 0, 1) := by decide +kernel
theorem dX7_init_71 : decode cX7_init 71 = .ok (.iconst 0, 1) := by decide +kernel
theorem dX7_init_72 : decode cX7_init 72 = .ok (.putfield 43, 3) := by decide +kernel
theorem dX7_init_75 : decode cX7_init 75 = .ok (.return_, 1) := by decide +kernel
set_option maxRecDepth 20000 in
theorem ggX7_takeBook_X1_readInto : GoodIn wsX7_takeBook wsX1_readInto := goodIn_r _ [9, 10, 11, 12, 13, 8, 14, 15, 16, 17, 18, 19, 20, 21, 22, 23, 24, 25, 26, 27, 28, 29, 30, 31, 32, 33, 34, 35, 36, 37, 38, 39, 40, 41, 42, 43, 44, 45, 46, 47, 48, 49, 50, 51, 52, 53, 54, 55, 56, 57, 58, 59, 60, 61, 62, 139, 140, 141, 142, 143, 144, 145] (by decide +kernel) (by decide +kernel)
set_option maxRecDepth 20000 in
theorem gX7_takeBook_X1_readInto : GoodIn wsX7_takeBook (wsV RX7 51 RX1 yX1_readInto wsX1_readInto) := goodIn_app (goodIn_of _ (by decide +kernel)) ggX7_takeBook_X1_readInto
set_option maxRecDepth 20000 in
theorem ggX7_takeBook_X2_record : GoodIn wsX7_takeBook wsX2_record := goodIn_r _ [67, 68, 69, 70, 71, 72, 66, 73, 74, 75, 76, 77, 78, 79, 80, 81, 82, 83, 84, 85, 86, 87, 88, 89, 90, 91, 31, 92, 34, 35, 36, 33, 93, 94, 95, 40, 96, 42, 97, 98, 99, 100, 101, 102, 103, 104, 105, 106, 107, 108, 109, 110, 111, 112, 113, 114, 115, 116, 146, 147, 129, 130, 131, 132, 133, 134, 135, 136, 137, 138, 139, 140, 141, 142, 145, 148, 149, 150, 151, 152] (by decide +kernel) (by decide +kernel)
set_option maxRecDepth 20000 in
theorem gX7_takeBook_X2_record : GoodIn wsX7_takeBook (wsV RX7 55 RX2 yX2_record wsX2_record) := goodIn_app (goodIn_of _ (by decide +kernel)) ggX7_takeBook_X2_record
set_option maxRecDepth 20000 in
theorem ggX7_takeBook_X6_clearForBook : GoodIn wsX7_takeBook wsX6_clearForBook := goodIn_r _ [120, 80, 82, 84, 85, 86, 87, 88, 129, 130, 131, 132, 133, 134, 135, 136, 137, 138, 148, 149, 150, 151, 152] (by decide +kernel) (by decide +kernel)
set_option maxRecDepth 20000 in
theorem gX7_takeBook_X6_clearForBook : GoodIn wsX7_takeBook (wsV RX7 59 RX6 yX6_clearForBook wsX6_clearForBook) := goodIn_app (goodIn_of _ (by decide +kernel)) ggX7_takeBook_X6_clearForBook
set_option maxRecDepth 20000 in
theorem ggX7_takeBook_X0_copyFrom : GoodIn wsX7_takeBook wsX0_copyFrom := goodIn_r _ [92, 34, 35, 36, 33, 93, 94, 95, 40, 96, 42, 97, 98, 99, 100, 101, 102, 103, 104, 139, 140, 141, 142, 145] (by decide +kernel) (by decide +kernel)
set_option maxRecDepth 20000 in
theorem gX7_takeBook_X0_copyFrom : GoodIn wsX7_takeBook (wsV RX7 62 RX0 yX0_copyFrom wsX0_copyFrom) := goodIn_app (goodIn_of _ (by decide +kernel)) ggX7_takeBook_X0_copyFrom
theorem dX7_takeBook_0 : decode cX7_takeBook 0 = .ok (.aload_n 0, 1) := by decide +kernel
theorem dX7_takeBook_1 : decode cX7_takeBook 1 = .ok (.getfield 32, 3) := by decide +kernel
theorem dX7_takeBook_4 : decode cX7_takeBook 4 = .ok (.aload_n 0, 1) := by decide +kernel
theorem dX7_takeBook_5 : decode cX7_takeBook 5 = .ok (.getfield 16, 3) := by decide +kernel
theorem dX7_takeBook_8 : decode cX7_takeBook 8 = .ok (.getfield 47, 3) := by decide +kernel
theorem dX7_takeBook_11 : decode cX7_takeBook 11 = .ok (.invokevirtual 51, 3) := by decide +kernel
theorem dX7_takeBook_14 : decode cX7_takeBook 14 = .ok (.istore_n 1, 1) := by decide +kernel
theorem dX7_takeBook_15 : decode cX7_takeBook 15 = .ok (.iload_n 1, 1) := by decide +kernel
theorem dX7_takeBook_16 : decode cX7_takeBook 16 = .ok (.bipush (-5), 2) := by decide +kernel
theorem dX7_takeBook_18 : decode cX7_takeBook 18 = .ok (.if_icmp .eq 8, 3) := by decide +kernel
theorem dX7_takeBook_21 : decode cX7_takeBook 21 = .ok (.bipush (-100), 2) := by decide +kernel
theorem dX7_takeBook_23 : decode cX7_takeBook 23 = .ok (.iload_n 1, 1) := by decide +kernel
theorem dX7_takeBook_24 : decode cX7_takeBook 24 = .ok (.isub, 1) := by decide +kernel
theorem dX7_takeBook_25 : decode cX7_takeBook 25 = .ok (.ireturn, 1) := by decide +kernel
theorem dX7_takeBook_26 : decode cX7_takeBook 26 = .ok (.aload_n 0, 1) := by decide +kernel
theorem dX7_takeBook_27 : decode cX7_takeBook 27 = .ok (.getfield 25, 3) := by decide +kernel
theorem dX7_takeBook_30 : decode cX7_takeBook 30 = .ok (.aload_n 0, 1) := by decide +kernel
theorem dX7_takeBook_31 : decode cX7_takeBook 31 = .ok (.getfield 10, 3) := by decide +kernel
theorem dX7_takeBook_34 : decode cX7_takeBook 34 = .ok (.invokevirtual 55, 3) := by decide +kernel
theorem dX7_takeBook_37 : decode cX7_takeBook 37 = .ok (.aload_n 0, 1) := by decide +kernel
theorem dX7_takeBook_38 : decode cX7_takeBook 38 = .ok (.getfield 10, 3) := by decide +kernel
theorem dX7_takeBook_41 : decode cX7_takeBook 41 = .ok (.invokevirtual 59, 3) := by decide +kernel
theorem dX7_takeBook_44 : decode cX7_takeBook 44 = .ok (.aload_n 0, 1) := by decide +kernel
theorem dX7_takeBook_45 : decode cX7_takeBook 45 = .ok (.getfield 10, 3) := by decide +kernel
theorem dX7_takeBook_48 : decode cX7_takeBook 48 = .ok (.getfield 47, 3) := by decide +kernel
theorem dX7_takeBook_51 : decode cX7_takeBook 51 = .ok (.aload_n 0, 1) := by decide +kernel
theorem dX7_takeBook_52 : decode cX7_takeBook 52 = .ok (.getfield 16, 3) := by decide +kernel
theorem dX7_takeBook_55 : decode cX7_takeBook 55 = .ok (.getfield 47, 3) := by decide +kernel
theorem dX7_takeBook_58 : decode cX7_takeBook 58 = .ok (.invokevirtual 62, 3) := by decide +kernel
theorem dX7_takeBook_61 : decode cX7_takeBook 61 = .ok (.aload_n 0, 1) := by decide +kernel
theorem dX7_takeBook_62 : decode cX7_takeBook 62 = .ok (.getfield 10, 3) := by decide +kernel
theorem dX7_takeBook_65 : decode cX7_takeBook 65 = .ok (.getfield 47, 3) := by decide +kernel
theorem dX7_takeBook_68 : decode cX7_takeBook 68 = .ok (.getfield 68, 3) := by decide +kernel
theorem dX7_takeBook_71 : decode cX7_takeBook 71 = .ok (.ireturn, 1) := by decide +kernel
set_option maxRecDepth 20000 in
theorem ggX7_layBook_X2_record : GoodIn wsX7_layBook wsX2_record := goodIn_r _ [7, 8, 9, 10, 11, 12, 6, 13, 14, 15, 16, 17, 18, 19, 20, 21, 22, 23, 24, 25, 26, 27, 28, 29, 30, 31, 32, 33, 34, 35, 36, 37, 38, 39, 40, 41, 42, 43, 44, 45, 46, 47, 48, 49, 50, 51, 52, 53, 54, 55, 56, 57, 58, 59, 60, 61, 62, 63, 109, 110, 99, 100, 101, 102, 103, 104, 105, 106, 107, 108, 111, 112, 113, 114, 115, 116, 117, 118, 119, 120] (by decide +kernel) (by decide +kernel)
set_option maxRecDepth 20000 in
theorem gX7_layBook_X2_record : GoodIn wsX7_layBook (wsV RX7 55 RX2 yX2_record wsX2_record) := goodIn_app (goodIn_of _ (by decide +kernel)) ggX7_layBook_X2_record
set_option maxRecDepth 20000 in
theorem ggX7_layBook_X6_clearForBook : GoodIn wsX7_layBook wsX6_clearForBook := goodIn_r _ [67, 20, 22, 24, 25, 26, 27, 28, 99, 100, 101, 102, 103, 104, 105, 106, 107, 108, 116, 117, 118, 119, 120] (by decide +kernel) (by decide +kernel)
set_option maxRecDepth 20000 in
theorem gX7_layBook_X6_clearForBook : GoodIn wsX7_layBook (wsV RX7 59 RX6 yX6_clearForBook wsX6_clearForBook) := goodIn_app (goodIn_of _ (by decide +kernel)) ggX7_layBook_X6_clearForBook
set_option maxRecDepth 20000 in
theorem ggX7_layBook_X0_layBySeed : GoodIn wsX7_layBook wsX0_layBySeed := goodIn_r _ [71, 37, 72, 73, 74, 32, 75, 34, 35, 36, 76, 77, 78, 41, 79, 43, 80, 81, 82, 83, 84, 85, 86, 87, 88, 89, 90, 91, 111, 112, 113, 114, 115] (by decide +kernel) (by decide +kernel)
set_option maxRecDepth 20000 in
theorem gX7_layBook_X0_layBySeed : GoodIn wsX7_layBook (wsV RX7 72 RX0 yX0_layBySeed wsX0_layBySeed) := goodIn_app (goodIn_of _ (by decide +kernel)) ggX7_layBook_X0_layBySeed
theorem dX7_layBook_0 : decode cX7_layBook 0 = .ok (.iload_n 1, 1) := by decide +kernel
theorem dX7_layBook_1 : decode cX7_layBook 1 = .ok (.iconst 1, 1) := by decide +kernel
theorem dX7_layBook_2 : decode cX7_layBook 2 = .ok (.if_icmp .lt 20, 3) := by decide +kernel
theorem dX7_layBook_5 : decode cX7_layBook 5 = .ok (.iload_n 1, 1) := by decide +kernel
theorem dX7_layBook_6 : decode cX7_layBook 6 = .ok (.bipush 30, 2) := by decide +kernel
theorem dX7_layBook_8 : decode cX7_layBook 8 = .ok (.if_icmp .gt 14, 3) := by decide +kernel
theorem dX7_layBook_11 : decode cX7_layBook 11 = .ok (.iload_n 2, 1) := by decide +kernel
theorem dX7_layBook_12 : decode cX7_layBook 12 = .ok (.ifCond .lt 10, 3) := by decide +kernel
theorem dX7_layBook_15 : decode cX7_layBook 15 = .ok (.iload_n 2, 1) := by decide +kernel
theorem dX7_layBook_16 : decode cX7_layBook 16 = .ok (.sipush 9999, 3) := by decide +kernel
theorem dX7_layBook_19 : decode cX7_layBook 19 = .ok (.if_icmp .le 6, 3) := by decide +kernel
theorem dX7_layBook_22 : decode cX7_layBook 22 = .ok (.bipush (-2), 2) := by decide +kernel
theorem dX7_layBook_24 : decode cX7_layBook 24 = .ok (.ireturn, 1) := by decide +kernel
theorem dX7_layBook_25 : decode cX7_layBook 25 = .ok (.aload_n 0, 1) := by decide +kernel
theorem dX7_layBook_26 : decode cX7_layBook 26 = .ok (.getfield 25, 3) := by decide +kernel
theorem dX7_layBook_29 : decode cX7_layBook 29 = .ok (.aload_n 0, 1) := by decide +kernel
theorem dX7_layBook_30 : decode cX7_layBook 30 = .ok (.getfield 10, 3) := by decide +kernel
theorem dX7_layBook_33 : decode cX7_layBook 33 = .ok (.invokevirtual 55, 3) := by decide +kernel
theorem dX7_layBook_36 : decode cX7_layBook 36 = .ok (.aload_n 0, 1) := by decide +kernel
theorem dX7_layBook_37 : decode cX7_layBook 37 = .ok (.getfield 10, 3) := by decide +kernel
theorem dX7_layBook_40 : decode cX7_layBook 40 = .ok (.invokevirtual 59, 3) := by decide +kernel
theorem dX7_layBook_43 : decode cX7_layBook 43 = .ok (.aload_n 0, 1) := by decide +kernel
theorem dX7_layBook_44 : decode cX7_layBook 44 = .ok (.getfield 10, 3) := by decide +kernel
theorem dX7_layBook_47 : decode cX7_layBook 47 = .ok (.getfield 47, 3) := by decide +kernel
theorem dX7_layBook_50 : decode cX7_layBook 50 = .ok (.iload_n 1, 1) := by decide +kernel
theorem dX7_layBook_51 : decode cX7_layBook 51 = .ok (.iload_n 2, 1) := by decide +kernel
theorem dX7_layBook_52 : decode cX7_layBook 52 = .ok (.invokevirtual 72, 3) := by decide +kernel
theorem dX7_layBook_55 : decode cX7_layBook 55 = .ok (.ireturn, 1) := by decide +kernel
set_option maxRecDepth 20000 in
theorem ggX7_print_X0_hasPage : GoodIn wsX7_print wsX0_hasPage := goodIn_r _ [7, 8, 9, 10, 6, 11, 12, 101, 102, 103, 104] (by decide +kernel) (by decide +kernel)
set_option maxRecDepth 20000 in
theorem gX7_print_X0_hasPage : GoodIn wsX7_print (wsV RX7 76 RX0 yX0_hasPage wsX0_hasPage) := goodIn_app (goodIn_of _ (by decide +kernel)) ggX7_print_X0_hasPage
set_option maxRecDepth 20000 in
theorem ggX7_print_X3_at : GoodIn wsX7_print wsX3_at := goodIn_r _ [17, 18, 19, 20, 21, 16, 22, 105] (by decide +kernel) (by decide +kernel)
set_option maxRecDepth 20000 in
theorem gX7_print_X3_at : GoodIn wsX7_print (wsV RX7 84 RX3 yX3_at wsX3_at) := goodIn_app (goodIn_of _ (by decide +kernel)) ggX7_print_X3_at
set_option maxRecDepth 20000 in
theorem ggX7_print_X2_record : GoodIn wsX7_print wsX2_record := goodIn_r _ [27, 28, 29, 30, 31, 32, 26, 33, 34, 35, 36, 37, 38, 39, 40, 41, 42, 43, 44, 45, 46, 47, 48, 49, 50, 51, 6, 52, 53, 54, 55, 12, 56, 57, 58, 16, 59, 18, 60, 61, 62, 63, 64, 65, 66, 67, 68, 69, 70, 71, 72, 73, 74, 75, 76, 77, 78, 79, 106, 107, 91, 92, 93, 94, 95, 96, 97, 98, 99, 100, 101, 102, 103, 104, 105, 108, 109, 110, 111, 112] (by decide +kernel) (by decide +kernel)
set_option maxRecDepth 20000 in
theorem gX7_print_X2_record : GoodIn wsX7_print (wsV RX7 55 RX2 yX2_record wsX2_record) := goodIn_app (goodIn_of _ (by decide +kernel)) ggX7_print_X2_record
set_option maxRecDepth 20000 in
theorem ggX7_print_X3_put : GoodIn wsX7_print wsX3_put := goodIn_r _ [83, 18, 19, 20, 21, 16, 22, 105] (by decide +kernel) (by decide +kernel)
set_option maxRecDepth 20000 in
theorem gX7_print_X3_put : GoodIn wsX7_print (wsV RX7 90 RX3 yX3_put wsX3_put) := goodIn_app (goodIn_of _ (by decide +kernel)) ggX7_print_X3_put
theorem dX7_print_0 : decode cX7_print 0 = .ok (.aload_n 0, 1) := by decide +kernel
theorem dX7_print_1 : decode cX7_print 1 = .ok (.getfield 10, 3) := by decide +kernel
theorem dX7_print_4 : decode cX7_print 4 = .ok (.getfield 47, 3) := by decide +kernel
theorem dX7_print_7 : decode cX7_print 7 = .ok (.iload_n 1, 1) := by decide +kernel
theorem dX7_print_8 : decode cX7_print 8 = .ok (.invokevirtual 76, 3) := by decide +kernel
theorem dX7_print_11 : decode cX7_print 11 = .ok (.ifCond .ne 5, 3) := by decide +kernel
theorem dX7_print_14 : decode cX7_print 14 = .ok (.iconst (-1), 1) := by decide +kernel
theorem dX7_print_15 : decode cX7_print 15 = .ok (.ireturn, 1) := by decide +kernel
theorem dX7_print_16 : decode cX7_print 16 = .ok (.iload_n 2, 1) := by decide +kernel
theorem dX7_print_17 : decode cX7_print 17 = .ok (.bipush (-5), 2) := by decide +kernel
theorem dX7_print_19 : decode cX7_print 19 = .ok (.if_icmp .eq 17, 3) := by decide +kernel
theorem dX7_print_22 : decode cX7_print 22 = .ok (.iload_n 2, 1) := by decide +kernel
theorem dX7_print_23 : decode cX7_print 23 = .ok (.ifCond .lt 10, 3) := by decide +kernel
theorem dX7_print_26 : decode cX7_print 26 = .ok (.iload_n 2, 1) := by decide +kernel
theorem dX7_print_27 : decode cX7_print 27 = .ok (.sipush 199, 3) := by decide +kernel
theorem dX7_print_30 : decode cX7_print 30 = .ok (.if_icmp .le 6, 3) := by decide +kernel
theorem dX7_print_33 : decode cX7_print 33 = .ok (.bipush (-2), 2) := by decide +kernel
theorem dX7_print_35 : decode cX7_print 35 = .ok (.ireturn, 1) := by decide +kernel
theorem dX7_print_36 : decode cX7_print 36 = .ok (.aload_n 0, 1) := by decide +kernel
theorem dX7_print_37 : decode cX7_print 37 = .ok (.getfield 10, 3) := by decide +kernel
theorem dX7_print_40 : decode cX7_print 40 = .ok (.getfield 47, 3) := by decide +kernel
theorem dX7_print_43 : decode cX7_print 43 = .ok (.getfield 80, 3) := by decide +kernel
theorem dX7_print_46 : decode cX7_print 46 = .ok (.iload_n 1, 1) := by decide +kernel
theorem dX7_print_47 : decode cX7_print 47 = .ok (.invokevirtual 84, 3) := by decide +kernel
theorem dX7_print_50 : decode cX7_print 50 = .ok (.istore_n 3, 1) := by decide +kernel
theorem dX7_print_51 : decode cX7_print 51 = .ok (.iload_n 3, 1) := by decide +kernel
theorem dX7_print_52 : decode cX7_print 52 = .ok (.iload_n 2, 1) := by decide +kernel
theorem dX7_print_53 : decode cX7_print 53 = .ok (.if_icmp .ne 6, 3) := by decide +kernel
theorem dX7_print_56 : decode cX7_print 56 = .ok (.bipush (-5), 2) := by decide +kernel
theorem dX7_print_58 : decode cX7_print 58 = .ok (.ireturn, 1) := by decide +kernel
theorem dX7_print_59 : decode cX7_print 59 = .ok (.aload_n 0, 1) := by decide +kernel
theorem dX7_print_60 : decode cX7_print 60 = .ok (.getfield 25, 3) := by decide +kernel
theorem dX7_print_63 : decode cX7_print 63 = .ok (.aload_n 0, 1) := by decide +kernel
theorem dX7_print_64 : decode cX7_print 64 = .ok (.getfield 10, 3) := by decide +kernel
theorem dX7_print_67 : decode cX7_print 67 = .ok (.invokevirtual 55, 3) := by decide +kernel
theorem dX7_print_70 : decode cX7_print 70 = .ok (.aload_n 0, 1) := by decide +kernel
theorem dX7_print_71 : decode cX7_print 71 = .ok (.getfield 10, 3) := by decide +kernel
theorem dX7_print_74 : decode cX7_print 74 = .ok (.getfield 47, 3) := by decide +kernel
theorem dX7_print_77 : decode cX7_print 77 = .ok (.getfield 80, 3) := by decide +kernel
theorem dX7_print_80 : decode cX7_print 80 = .ok (.iload_n 1, 1) := by decide +kernel
theorem dX7_print_81 : decode cX7_print 81 = .ok (.iload_n 2, 1) := by decide +kernel
theorem dX7_print_82 : decode cX7_print 82 = .ok (.invokevirtual 90, 3) := by decide +kernel
theorem dX7_print_85 : decode cX7_print 85 = .ok (.iload_n 3, 1) := by decide +kernel
theorem dX7_print_86 : decode cX7_print 86 = .ok (.bipush (-5), 2) := by decide +kernel
theorem dX7_print_88 : decode cX7_print 88 = .ok (.if_icmp .ne 9, 3) := by decide +kernel
theorem dX7_print_91 : decode cX7_print 91 = .ok (.sipush 200, 3) := by decide +kernel
theorem dX7_print_94 : decode cX7_print 94 = .ok (.goto 4, 3) := by decide +kernel
theorem dX7_print_97 : decode cX7_print 97 = .ok (.iload_n 3, 1) := by decide +kernel
theorem dX7_print_98 : decode cX7_print 98 = .ok (.ireturn, 1) := by decide +kernel
set_option maxRecDepth 20000 in
theorem ggX7_turn_X6_leavesOnRight : GoodIn wsX7_turn wsX6_leavesOnRight := goodIn_r _ [7, 8, 9, 99, 100, 101, 102, 103, 104, 105, 106, 107, 108, 109, 110, 111, 112] (by decide +kernel) (by decide +kernel)
set_option maxRecDepth 20000 in
theorem gX7_turn_X6_leavesOnRight : GoodIn wsX7_turn (wsV RX7 94 RX6 yX6_leavesOnRight wsX6_leavesOnRight) := goodIn_app (goodIn_of _ (by decide +kernel)) ggX7_turn_X6_leavesOnRight
set_option maxRecDepth 20000 in
theorem ggX7_turn_X2_record : GoodIn wsX7_turn wsX2_record := goodIn_r _ [14, 15, 16, 17, 18, 19, 13, 20, 21, 22, 23, 6, 24, 8, 25, 26, 9, 27, 28, 29, 30, 31, 32, 33, 34, 35, 36, 37, 38, 39, 40, 41, 42, 43, 44, 45, 46, 47, 48, 49, 50, 51, 52, 53, 54, 55, 56, 57, 58, 59, 60, 61, 62, 63, 64, 65, 66, 67, 113, 114, 99, 100, 101, 102, 103, 104, 105, 106, 107, 108, 109, 110, 111, 112, 115, 116, 117, 118, 119, 120] (by decide +kernel) (by decide +kernel)
set_option maxRecDepth 20000 in
theorem gX7_turn_X2_record : GoodIn wsX7_turn (wsV RX7 55 RX2 yX2_record wsX2_record) := goodIn_app (goodIn_of _ (by decide +kernel)) ggX7_turn_X2_record
set_option maxRecDepth 20000 in
theorem ggX7_turn_X6_turnOnce : GoodIn wsX7_turn wsX6_turnOnce := goodIn_r _ [71, 27, 9, 28, 30, 29, 72, 73, 74, 6, 75, 8, 76, 77, 78, 45, 79, 47, 80, 81, 82, 83, 84, 85, 86, 87, 31, 26, 88, 49, 50, 51, 89, 90, 91, 99, 100, 101, 102, 103, 104, 105, 106, 107, 108, 109, 110, 111, 112, 115] (by decide +kernel) (by decide +kernel)
set_option maxRecDepth 20000 in
theorem gX7_turn_X6_turnOnce : GoodIn wsX7_turn (wsV RX7 98 RX6 yX6_turnOnce wsX6_turnOnce) := goodIn_app (goodIn_of _ (by decide +kernel)) ggX7_turn_X6_turnOnce
theorem dX7_turn_0 : decode cX7_turn 0 = .ok (.aload_n 0, 1) := by decide +kernel
theorem dX7_turn_1 : decode cX7_turn 1 = .ok (.getfield 10, 3) := by decide +kernel
theorem dX7_turn_4 : decode cX7_turn 4 = .ok (.invokevirtual 94, 3) := by decide +kernel
theorem dX7_turn_7 : decode cX7_turn 7 = .ok (.ifCond .ne 6, 3) := by decide +kernel
theorem dX7_turn_10 : decode cX7_turn 10 = .ok (.bipush (-4), 2) := by decide +kernel
theorem dX7_turn_12 : decode cX7_turn 12 = .ok (.ireturn, 1) := by decide +kernel
theorem dX7_turn_13 : decode cX7_turn 13 = .ok (.aload_n 0, 1) := by decide +kernel
theorem dX7_turn_14 : decode cX7_turn 14 = .ok (.getfield 25, 3) := by decide +kernel
theorem dX7_turn_17 : decode cX7_turn 17 = .ok (.aload_n 0, 1) := by decide +kernel
theorem dX7_turn_18 : decode cX7_turn 18 = .ok (.getfield 10, 3) := by decide +kernel
theorem dX7_turn_21 : decode cX7_turn 21 = .ok (.invokevirtual 55, 3) := by decide +kernel
theorem dX7_turn_24 : decode cX7_turn 24 = .ok (.aload_n 0, 1) := by decide +kernel
theorem dX7_turn_25 : decode cX7_turn 25 = .ok (.getfield 10, 3) := by decide +kernel
theorem dX7_turn_28 : decode cX7_turn 28 = .ok (.invokevirtual 98, 3) := by decide +kernel
theorem dX7_turn_31 : decode cX7_turn 31 = .ok (.ireturn, 1) := by decide +kernel
set_option maxRecDepth 20000 in
theorem ggX7_turnBack_X2_record : GoodIn wsX7_turnBack wsX2_record := goodIn_r _ [7, 8, 9, 10, 11, 12, 6, 13, 14, 15, 16, 17, 18, 19, 20, 21, 22, 23, 24, 25, 26, 27, 28, 29, 30, 31, 32, 33, 34, 35, 36, 37, 38, 39, 40, 41, 42, 43, 44, 45, 46, 47, 48, 49, 50, 51, 52, 53, 54, 55, 56, 57, 58, 59, 60, 61, 62, 63, 81, 82, 71, 72, 73, 74, 75, 76, 77, 78, 79, 80, 83, 84, 85, 86, 87, 88, 89, 90, 91, 92] (by decide +kernel) (by decide +kernel)
set_option maxRecDepth 20000 in
theorem gX7_turnBack_X2_record : GoodIn wsX7_turnBack (wsV RX7 55 RX2 yX2_record wsX2_record) := goodIn_app (goodIn_of _ (by decide +kernel)) ggX7_turnBack_X2_record
theorem dX7_turnBack_0 : decode cX7_turnBack 0 = .ok (.aload_n 0, 1) := by decide +kernel
theorem dX7_turnBack_1 : decode cX7_turnBack 1 = .ok (.getfield 10, 3) := by decide +kernel
theorem dX7_turnBack_4 : decode cX7_turnBack 4 = .ok (.getfield 101, 3) := by decide +kernel
theorem dX7_turnBack_7 : decode cX7_turnBack 7 = .ok (.ifCond .ne 6, 3) := by decide +kernel
theorem dX7_turnBack_10 : decode cX7_turnBack 10 = .ok (.bipush (-4), 2) := by decide +kernel
theorem dX7_turnBack_12 : decode cX7_turnBack 12 = .ok (.ireturn, 1) := by decide +kernel
theorem dX7_turnBack_13 : decode cX7_turnBack 13 = .ok (.aload_n 0, 1) := by decide +kernel
theorem dX7_turnBack_14 : decode cX7_turnBack 14 = .ok (.getfield 25, 3) := by decide +kernel
theorem dX7_turnBack_17 : decode cX7_turnBack 17 = .ok (.aload_n 0, 1) := by decide +kernel
theorem dX7_turnBack_18 : decode cX7_turnBack 18 = .ok (.getfield 10, 3) := by decide +kernel
theorem dX7_turnBack_21 : decode cX7_turnBack 21 = .ok (.invokevirtual 55, 3) := by decide +kernel
theorem dX7_turnBack_24 : decode cX7_turnBack 24 = .ok (.aload_n 0, 1) := by decide +kernel
theorem dX7_turnBack_25 : decode cX7_turnBack 25 = .ok (.getfield 10, 3) := by decide +kernel
theorem dX7_turnBack_28 : decode cX7_turnBack 28 = .ok (.dup, 1) := by decide +kernel
theorem dX7_turnBack_29 : decode cX7_turnBack 29 = .ok (.getfield 101, 3) := by decide +kernel
theorem dX7_turnBack_32 : decode cX7_turnBack 32 = .ok (.iconst 1, 1) := by decide +kernel
theorem dX7_turnBack_33 : decode cX7_turnBack 33 = .ok (.isub, 1) := by decide +kernel
theorem dX7_turnBack_34 : decode cX7_turnBack 34 = .ok (.putfield 101, 3) := by decide +kernel
theorem dX7_turnBack_37 : decode cX7_turnBack 37 = .ok (.aload_n 0, 1) := by decide +kernel
theorem dX7_turnBack_38 : decode cX7_turnBack 38 = .ok (.getfield 10, 3) := by decide +kernel
theorem dX7_turnBack_41 : decode cX7_turnBack 41 = .ok (.getfield 101, 3) := by decide +kernel
theorem dX7_turnBack_44 : decode cX7_turnBack 44 = .ok (.ireturn, 1) := by decide +kernel
set_option maxRecDepth 20000 in
theorem ggX7_shoot_X6_hasBook : GoodIn wsX7_shoot wsX6_hasBook := goodIn_r _ [7, 8, 128, 129, 130, 131, 132, 133, 134, 135, 136, 137, 138, 139, 140, 141] (by decide +kernel) (by decide +kernel)
set_option maxRecDepth 20000 in
theorem gX7_shoot_X6_hasBook : GoodIn wsX7_shoot (wsV RX7 104 RX6 yX6_hasBook wsX6_hasBook) := goodIn_app (goodIn_of _ (by decide +kernel)) ggX7_shoot_X6_hasBook
set_option maxRecDepth 20000 in
theorem ggX7_shoot_X6_hasRoomForPair : GoodIn wsX7_shoot wsX6_hasRoomForPair := goodIn_r _ [12, 13, 14, 15, 16, 6, 17, 18, 19, 20, 21, 22, 23, 24, 25, 26, 27, 28, 29, 30, 31, 32, 33, 8, 128, 129, 130, 131, 132, 133, 134, 135, 136, 137, 142, 143, 144, 145, 146, 138, 139, 140, 141] (by decide +kernel) (by decide +kernel)
set_option maxRecDepth 20000 in
theorem gX7_shoot_X6_hasRoomForPair : GoodIn wsX7_shoot (wsV RX7 108 RX6 yX6_hasRoomForPair wsX6_hasRoomForPair) := goodIn_app (goodIn_of _ (by decide +kernel)) ggX7_shoot_X6_hasRoomForPair
set_option maxRecDepth 20000 in
theorem ggX7_shoot_X2_record : GoodIn wsX7_shoot wsX2_record := goodIn_r _ [38, 39, 40, 41, 42, 43, 37, 44, 45, 46, 47, 6, 48, 8, 13, 49, 22, 50, 51, 52, 53, 54, 55, 56, 57, 58, 59, 60, 61, 62, 63, 64, 65, 66, 67, 68, 69, 70, 71, 72, 73, 74, 75, 76, 77, 78, 79, 80, 81, 82, 83, 84, 85, 86, 87, 88, 89, 90, 147, 148, 128, 129, 130, 131, 132, 133, 134, 135, 136, 137, 138, 139, 140, 141, 149, 142, 143, 144, 145, 146] (by decide +kernel) (by decide +kernel)
set_option maxRecDepth 20000 in
theorem gX7_shoot_X2_record : GoodIn wsX7_shoot (wsV RX7 55 RX2 yX2_record wsX2_record) := goodIn_app (goodIn_of _ (by decide +kernel)) ggX7_shoot_X2_record
set_option maxRecDepth 20000 in
theorem ggX7_shoot_X6_takePair : GoodIn wsX7_shoot wsX6_takePair := goodIn_r _ [94, 55, 14, 15, 16, 6, 17, 18, 19, 20, 21, 22, 23, 24, 25, 26, 27, 28, 29, 30, 31, 32, 33, 8, 95, 96, 97, 98, 13, 99, 100, 101, 102, 49, 103, 104, 105, 106, 107, 68, 108, 70, 109, 110, 111, 112, 113, 114, 115, 82, 116, 88, 84, 85, 86, 87, 117, 118, 119, 120, 128, 129, 130, 131, 132, 133, 134, 135, 136, 137, 138, 139, 140, 141, 149, 142, 143, 144, 145, 146] (by decide +kernel) (by decide +kernel)
set_option maxRecDepth 20000 in
theorem gX7_shoot_X6_takePair : GoodIn wsX7_shoot (wsV RX7 111 RX6 yX6_takePair wsX6_takePair) := goodIn_app (goodIn_of _ (by decide +kernel)) ggX7_shoot_X6_takePair
theorem dX7_shoot_0 : decode cX7_shoot 0 = .ok (.aload_n 0, 1) := by decide +kernel
theorem dX7_shoot_1 : decode cX7_shoot 1 = .ok (.getfield 10, 3) := by decide +kernel
theorem dX7_shoot_4 : decode cX7_shoot 4 = .ok (.invokevirtual 104, 3) := by decide +kernel
theorem dX7_shoot_7 : decode cX7_shoot 7 = .ok (.ifCond .ne 6, 3) := by decide +kernel
theorem dX7_shoot_10 : decode cX7_shoot 10 = .ok (.bipush (-4), 2) := by decide +kernel
theorem dX7_shoot_12 : decode cX7_shoot 12 = .ok (.ireturn, 1) := by decide +kernel
theorem dX7_shoot_13 : decode cX7_shoot 13 = .ok (.aload_n 0, 1) := by decide +kernel
theorem dX7_shoot_14 : decode cX7_shoot 14 = .ok (.getfield 10, 3) := by decide +kernel
theorem dX7_shoot_17 : decode cX7_shoot 17 = .ok (.invokevirtual 108, 3) := by decide +kernel
theorem dX7_shoot_20 : decode cX7_shoot 20 = .ok (.ifCond .ne 6, 3) := by decide +kernel
theorem dX7_shoot_23 : decode cX7_shoot 23 = .ok (.bipush (-3), 2) := by decide +kernel
theorem dX7_shoot_25 : decode cX7_shoot 25 = .ok (.ireturn, 1) := by decide +kernel
theorem dX7_shoot_26 : decode cX7_shoot 26 = .ok (.aload_n 0, 1) := by decide +kernel
theorem dX7_shoot_27 : decode cX7_shoot 27 = .ok (.getfield 25, 3) := by decide +kernel
theorem dX7_shoot_30 : decode cX7_shoot 30 = .ok (.aload_n 0, 1) := by decide +kernel
theorem dX7_shoot_31 : decode cX7_shoot 31 = .ok (.getfield 10, 3) := by decide +kernel
theorem dX7_shoot_34 : decode cX7_shoot 34 = .ok (.invokevirtual 55, 3) := by decide +kernel
theorem dX7_shoot_37 : decode cX7_shoot 37 = .ok (.aload_n 0, 1) := by decide +kernel
theorem dX7_shoot_38 : decode cX7_shoot 38 = .ok (.getfield 10, 3) := by decide +kernel
theorem dX7_shoot_41 : decode cX7_shoot 41 = .ok (.invokevirtual 111, 3) := by decide +kernel
theorem dX7_shoot_44 : decode cX7_shoot 44 = .ok (.ireturn, 1) := by decide +kernel
set_option maxRecDepth 20000 in
theorem ggX7_scan_X6_hasBook : GoodIn wsX7_scan wsX6_hasBook := goodIn_r _ [8, 9, 150, 151, 152, 153, 154, 155, 156, 157, 158, 159, 160, 161, 162, 163] (by decide +kernel) (by decide +kernel)
set_option maxRecDepth 20000 in
theorem gX7_scan_X6_hasBook : GoodIn wsX7_scan (wsV RX7 104 RX6 yX6_hasBook wsX6_hasBook) := goodIn_app (goodIn_of _ (by decide +kernel)) ggX7_scan_X6_hasBook
set_option maxRecDepth 20000 in
theorem ggX7_scan_X6_copyFrom : GoodIn wsX7_scan wsX6_copyFrom := goodIn_r _ [13, 9, 14, 15, 16, 17, 18, 19, 20, 21, 22, 23, 24, 25, 26, 27, 28, 29, 30, 31, 32, 33, 34, 35, 36, 37, 38, 39, 40, 41, 42, 43, 44, 45, 46, 47, 48, 49, 50, 51, 52, 53, 54, 55, 56, 57, 150, 151, 152, 153, 154, 155, 156, 157, 158, 159, 160, 161, 162, 163, 164, 165, 166, 167, 168, 169] (by decide +kernel) (by decide +kernel)
set_option maxRecDepth 20000 in
theorem gX7_scan_X6_copyFrom : GoodIn wsX7_scan (wsV RX7 114 RX6 yX6_copyFrom wsX6_copyFrom) := goodIn_app (goodIn_of _ (by decide +kernel)) ggX7_scan_X6_copyFrom
set_option maxRecDepth 20000 in
theorem ggX7_scan_X6_takeAndTurn : GoodIn wsX7_scan wsX6_takeAndTurn := goodIn_r _ [61, 62, 63, 64, 7, 65, 9, 16, 66, 67, 68, 69, 14, 70, 71, 72, 73, 74, 75, 76, 77, 78, 79, 80, 81, 82, 83, 84, 85, 86, 87, 88, 22, 89, 90, 91, 92, 93, 94, 95, 96, 15, 97, 98, 99, 100, 101, 35, 102, 37, 103, 104, 105, 106, 107, 108, 109, 49, 110, 55, 51, 52, 53, 54, 111, 112, 113, 114, 115, 116, 117, 118, 17, 18, 20, 19, 119, 120, 121, 122, 123, 124, 125, 126, 21, 127, 39, 40, 41, 128, 129, 130, 150, 151, 152, 153, 154, 155, 156, 157, 158, 159, 160, 161, 162, 163, 165, 166, 167, 168, 169, 164] (by decide +kernel) (by decide +kernel)
set_option maxRecDepth 20000 in
theorem gX7_scan_X6_takeAndTurn : GoodIn wsX7_scan (wsV RX7 116 RX6 yX6_takeAndTurn wsX6_takeAndTurn) := goodIn_app (goodIn_of _ (by decide +kernel)) ggX7_scan_X6_takeAndTurn
set_option maxRecDepth 20000 in
theorem ggX7_scan_X2_record : GoodIn wsX7_scan wsX2_record := goodIn_r _ [135, 136, 137, 138, 139, 140, 134, 141, 142, 11, 12, 7, 13, 9, 14, 15, 16, 17, 18, 19, 20, 21, 22, 23, 24, 25, 26, 27, 28, 29, 30, 31, 32, 33, 34, 35, 36, 37, 38, 39, 40, 41, 42, 43, 44, 45, 46, 47, 48, 49, 50, 51, 52, 53, 54, 55, 56, 57, 170, 171, 150, 151, 152, 153, 154, 155, 156, 157, 158, 159, 160, 161, 162, 163, 164, 165, 166, 167, 168, 169] (by decide +kernel) (by decide +kernel)
set_option maxRecDepth 20000 in
theorem gX7_scan_X2_record : GoodIn wsX7_scan (wsV RX7 55 RX2 yX2_record wsX2_record) := goodIn_app (goodIn_of _ (by decide +kernel)) ggX7_scan_X2_record
theorem dX7_scan_0 : decode cX7_scan 0 = .ok (.iload_n 1, 1) := by decide +kernel
theorem dX7_scan_1 : decode cX7_scan 1 = .ok (.iconst 1, 1) := by decide +kernel
theorem dX7_scan_2 : decode cX7_scan 2 = .ok (.if_icmp .lt 9, 3) := by decide +kernel
theorem dX7_scan_5 : decode cX7_scan 5 = .ok (.iload_n 1, 1) := by decide +kernel
theorem dX7_scan_6 : decode cX7_scan 6 = .ok (.bipush 60, 2) := by decide +kernel
theorem dX7_scan_8 : decode cX7_scan 8 = .ok (.if_icmp .le 6, 3) := by decide +kernel
theorem dX7_scan_11 : decode cX7_scan 11 = .ok (.bipush (-2), 2) := by decide +kernel
theorem dX7_scan_13 : decode cX7_scan 13 = .ok (.ireturn, 1) := by decide +kernel
theorem dX7_scan_14 : decode cX7_scan 14 = .ok (.aload_n 0, 1) := by decide +kernel
theorem dX7_scan_15 : decode cX7_scan 15 = .ok (.getfield 10, 3) := by decide +kernel
theorem dX7_scan_18 : decode cX7_scan 18 = .ok (.invokevirtual 104, 3) := by decide +kernel
theorem dX7_scan_21 : decode cX7_scan 21 = .ok (.ifCond .ne 6, 3) := by decide +kernel
theorem dX7_scan_24 : decode cX7_scan 24 = .ok (.bipush (-4), 2) := by decide +kernel
theorem dX7_scan_26 : decode cX7_scan 26 = .ok (.ireturn, 1) := by decide +kernel
theorem dX7_scan_27 : decode cX7_scan 27 = .ok (.aload_n 0, 1) := by decide +kernel
theorem dX7_scan_28 : decode cX7_scan 28 = .ok (.getfield 16, 3) := by decide +kernel
theorem dX7_scan_31 : decode cX7_scan 31 = .ok (.aload_n 0, 1) := by decide +kernel
theorem dX7_scan_32 : decode cX7_scan 32 = .ok (.getfield 10, 3) := by decide +kernel
theorem dX7_scan_35 : decode cX7_scan 35 = .ok (.invokevirtual 114, 3) := by decide +kernel
theorem dX7_scan_38 : decode cX7_scan 38 = .ok (.aload_n 0, 1) := by decide +kernel
theorem dX7_scan_39 : decode cX7_scan 39 = .ok (.getfield 16, 3) := by decide +kernel
theorem dX7_scan_42 : decode cX7_scan 42 = .ok (.iload_n 1, 1) := by decide +kernel
theorem dX7_scan_43 : decode cX7_scan 43 = .ok (.invokevirtual 116, 3) := by decide +kernel
theorem dX7_scan_46 : decode cX7_scan 46 = .ok (.istore_n 2, 1) := by decide +kernel
theorem dX7_scan_47 : decode cX7_scan 47 = .ok (.iload_n 2, 1) := by decide +kernel
theorem dX7_scan_48 : decode cX7_scan 48 = .ok (.bipush (-3), 2) := by decide +kernel
theorem dX7_scan_50 : decode cX7_scan 50 = .ok (.if_icmp .ne 6, 3) := by decide +kernel
theorem dX7_scan_53 : decode cX7_scan 53 = .ok (.bipush (-3), 2) := by decide +kernel
theorem dX7_scan_55 : decode cX7_scan 55 = .ok (.ireturn, 1) := by decide +kernel
theorem dX7_scan_56 : decode cX7_scan 56 = .ok (.aload_n 0, 1) := by decide +kernel
theorem dX7_scan_57 : decode cX7_scan 57 = .ok (.getfield 25, 3) := by decide +kernel
theorem dX7_scan_60 : decode cX7_scan 60 = .ok (.aload_n 0, 1) := by decide +kernel
theorem dX7_scan_61 : decode cX7_scan 61 = .ok (.getfield 10, 3) := by decide +kernel
theorem dX7_scan_64 : decode cX7_scan 64 = .ok (.invokevirtual 55, 3) := by decide +kernel
theorem dX7_scan_67 : decode cX7_scan 67 = .ok (.aload_n 0, 1) := by decide +kernel
theorem dX7_scan_68 : decode cX7_scan 68 = .ok (.getfield 10, 3) := by decide +kernel
theorem dX7_scan_71 : decode cX7_scan 71 = .ok (.aload_n 0, 1) := by decide +kernel
theorem dX7_scan_72 : decode cX7_scan 72 = .ok (.getfield 16, 3) := by decide +kernel
theorem dX7_scan_75 : decode cX7_scan 75 = .ok (.invokevirtual 114, 3) := by decide +kernel
theorem dX7_scan_78 : decode cX7_scan 78 = .ok (.iload_n 2, 1) := by decide +kernel
theorem dX7_scan_79 : decode cX7_scan 79 = .ok (.ireturn, 1) := by decide +kernel
set_option maxRecDepth 20000 in
theorem ggX7_throwAway_X5_has : GoodIn wsX7_throwAway wsX5_has := goodIn_r _ [7, 8, 98, 99, 100, 101, 102] (by decide +kernel) (by decide +kernel)
set_option maxRecDepth 20000 in
theorem gX7_throwAway_X5_has : GoodIn wsX7_throwAway (wsV RX7 123 RX5 yX5_has wsX5_has) := goodIn_app (goodIn_of _ (by decide +kernel)) ggX7_throwAway_X5_has
set_option maxRecDepth 20000 in
theorem ggX7_throwAway_X2_record : GoodIn wsX7_throwAway wsX2_record := goodIn_r _ [13, 14, 15, 16, 17, 18, 12, 19, 20, 21, 22, 23, 24, 25, 26, 27, 28, 29, 30, 31, 32, 33, 34, 35, 36, 37, 38, 39, 40, 41, 42, 43, 44, 45, 46, 47, 48, 49, 50, 51, 52, 53, 54, 55, 56, 57, 58, 59, 60, 6, 61, 62, 63, 64, 65, 8, 66, 67, 103, 104, 88, 89, 90, 91, 92, 93, 94, 95, 96, 97, 105, 106, 107, 108, 109, 98, 99, 100, 101, 102] (by decide +kernel) (by decide +kernel)
set_option maxRecDepth 20000 in
theorem gX7_throwAway_X2_record : GoodIn wsX7_throwAway (wsV RX7 55 RX2 yX2_record wsX2_record) := goodIn_app (goodIn_of _ (by decide +kernel)) ggX7_throwAway_X2_record
set_option maxRecDepth 20000 in
theorem ggX7_throwAway_X5_removeAt : GoodIn wsX7_throwAway wsX5_removeAt := goodIn_r _ [71, 62, 63, 64, 65, 8, 72, 4, 5, 6, 7, 73, 74, 75, 47, 76, 49, 54, 55, 56, 57, 77, 78, 79, 80, 98, 99, 100, 101, 102, 109] (by decide +kernel) (by decide +kernel)
set_option maxRecDepth 20000 in
theorem gX7_throwAway_X5_removeAt : GoodIn wsX7_throwAway (wsV RX7 128 RX5 yX5_removeAt wsX5_removeAt) := goodIn_app (goodIn_of _ (by decide +kernel)) ggX7_throwAway_X5_removeAt
theorem dX7_throwAway_0 : decode cX7_throwAway 0 = .ok (.aload_n 0, 1) := by decide +kernel
theorem dX7_throwAway_1 : decode cX7_throwAway 1 = .ok (.getfield 10, 3) := by decide +kernel
theorem dX7_throwAway_4 : decode cX7_throwAway 4 = .ok (.getfield 119, 3) := by decide +kernel
theorem dX7_throwAway_7 : decode cX7_throwAway 7 = .ok (.iload_n 1, 1) := by decide +kernel
theorem dX7_throwAway_8 : decode cX7_throwAway 8 = .ok (.invokevirtual 123, 3) := by decide +kernel
theorem dX7_throwAway_11 : decode cX7_throwAway 11 = .ok (.ifCond .ne 5, 3) := by decide +kernel
theorem dX7_throwAway_14 : decode cX7_throwAway 14 = .ok (.iconst (-1), 1) := by decide +kernel
theorem dX7_throwAway_15 : decode cX7_throwAway 15 = .ok (.ireturn, 1) := by decide +kernel
theorem dX7_throwAway_16 : decode cX7_throwAway 16 = .ok (.aload_n 0, 1) := by decide +kernel
theorem dX7_throwAway_17 : decode cX7_throwAway 17 = .ok (.getfield 25, 3) := by decide +kernel
theorem dX7_throwAway_20 : decode cX7_throwAway 20 = .ok (.aload_n 0, 1) := by decide +kernel
theorem dX7_throwAway_21 : decode cX7_throwAway 21 = .ok (.getfield 10, 3) := by decide +kernel
theorem dX7_throwAway_24 : decode cX7_throwAway 24 = .ok (.invokevirtual 55, 3) := by decide +kernel
theorem dX7_throwAway_27 : decode cX7_throwAway 27 = .ok (.aload_n 0, 1) := by decide +kernel
theorem dX7_throwAway_28 : decode cX7_throwAway 28 = .ok (.getfield 10, 3) := by decide +kernel
theorem dX7_throwAway_31 : decode cX7_throwAway 31 = .ok (.getfield 119, 3) := by decide +kernel
theorem dX7_throwAway_34 : decode cX7_throwAway 34 = .ok (.iload_n 1, 1) := by decide +kernel
theorem dX7_throwAway_35 : decode cX7_throwAway 35 = .ok (.invokevirtual 128, 3) := by decide +kernel
theorem dX7_throwAway_38 : decode cX7_throwAway 38 = .ok (.aload_n 0, 1) := by decide +kernel
theorem dX7_throwAway_39 : decode cX7_throwAway 39 = .ok (.getfield 10, 3) := by decide +kernel
theorem dX7_throwAway_42 : decode cX7_throwAway 42 = .ok (.getfield 119, 3) := by decide +kernel
theorem dX7_throwAway_45 : decode cX7_throwAway 45 = .ok (.getfield 132, 3) := by decide +kernel
theorem dX7_throwAway_48 : decode cX7_throwAway 48 = .ok (.ireturn, 1) := by decide +kernel
set_option maxRecDepth 20000 in
theorem ggX7_setSuction_X7_isSuction : GoodIn wsX7_setSuction wsX7_isSuction := goodIn_r _ [6] (by decide +kernel) (by decide +kernel)
set_option maxRecDepth 20000 in
theorem gX7_setSuction_X7_isSuction : GoodIn wsX7_setSuction (va_wsS RX7 135 yX7_isSuction wsX7_isSuction) := goodIn_app (goodIn_of _ (by decide +kernel)) ggX7_setSuction_X7_isSuction
set_option maxRecDepth 20000 in
theorem ggX7_setSuction_X2_record : GoodIn wsX7_setSuction wsX2_record := goodIn_r _ [11, 12, 13, 14, 15, 16, 10, 17, 18, 19, 20, 21, 22, 23, 24, 25, 26, 27, 28, 29, 30, 31, 32, 33, 34, 35, 36, 37, 38, 39, 40, 41, 42, 43, 44, 45, 46, 47, 48, 49, 50, 51, 52, 53, 54, 55, 56, 57, 58, 59, 60, 61, 62, 63, 64, 65, 66, 67, 85, 86, 75, 76, 77, 78, 79, 80, 81, 82, 83, 84, 87, 88, 89, 90, 91, 92, 93, 94, 95, 96] (by decide +kernel) (by decide +kernel)
set_option maxRecDepth 20000 in
theorem gX7_setSuction_X2_record : GoodIn wsX7_setSuction (wsV RX7 55 RX2 yX2_record wsX2_record) := goodIn_app (goodIn_of _ (by decide +kernel)) ggX7_setSuction_X2_record
theorem dX7_setSuction_0 : decode cX7_setSuction 0 = .ok (.iload_n 1, 1) := by decide +kernel
theorem dX7_setSuction_1 : decode cX7_setSuction 1 = .ok (.invokestatic 135, 3) := by decide +kernel
theorem dX7_setSuction_4 : decode cX7_setSuction 4 = .ok (.ifCond .ne 6, 3) := by decide +kernel
theorem dX7_setSuction_7 : decode cX7_setSuction 7 = .ok (.bipush (-2), 2) := by decide +kernel
theorem dX7_setSuction_9 : decode cX7_setSuction 9 = .ok (.ireturn, 1) := by decide +kernel
theorem dX7_setSuction_10 : decode cX7_setSuction 10 = .ok (.aload_n 0, 1) := by decide +kernel
theorem dX7_setSuction_11 : decode cX7_setSuction 11 = .ok (.getfield 10, 3) := by decide +kernel
theorem dX7_setSuction_14 : decode cX7_setSuction 14 = .ok (.getfield 138, 3) := by decide +kernel
theorem dX7_setSuction_17 : decode cX7_setSuction 17 = .ok (.istore_n 2, 1) := by decide +kernel
theorem dX7_setSuction_18 : decode cX7_setSuction 18 = .ok (.iload_n 2, 1) := by decide +kernel
theorem dX7_setSuction_19 : decode cX7_setSuction 19 = .ok (.iload_n 1, 1) := by decide +kernel
theorem dX7_setSuction_20 : decode cX7_setSuction 20 = .ok (.if_icmp .ne 6, 3) := by decide +kernel
theorem dX7_setSuction_23 : decode cX7_setSuction 23 = .ok (.bipush (-5), 2) := by decide +kernel
theorem dX7_setSuction_25 : decode cX7_setSuction 25 = .ok (.ireturn, 1) := by decide +kernel
theorem dX7_setSuction_26 : decode cX7_setSuction 26 = .ok (.aload_n 0, 1) := by decide +kernel
theorem dX7_setSuction_27 : decode cX7_setSuction 27 = .ok (.getfield 25, 3) := by decide +kernel
theorem dX7_setSuction_30 : decode cX7_setSuction 30 = .ok (.aload_n 0, 1) := by decide +kernel
theorem dX7_setSuction_31 : decode cX7_setSuction 31 = .ok (.getfield 10, 3) := by decide +kernel
theorem dX7_setSuction_34 : decode cX7_setSuction 34 = .ok (.invokevirtual 55, 3) := by decide +kernel
theorem dX7_setSuction_37 : decode cX7_setSuction 37 = .ok (.aload_n 0, 1) := by decide +kernel
theorem dX7_setSuction_38 : decode cX7_setSuction 38 = .ok (.getfield 10, 3) := by decide +kernel
theorem dX7_setSuction_41 : decode cX7_setSuction 41 = .ok (.iload_n 1, 1) := by decide +kernel
theorem dX7_setSuction_42 : decode cX7_setSuction 42 = .ok (.putfield 138, 3) := by decide +kernel
theorem dX7_setSuction_45 : decode cX7_setSuction 45 = .ok (.iload_n 2, 1) := by decide +kernel
theorem dX7_setSuction_46 : decode cX7_setSuction 46 = .ok (.ireturn, 1) := by decide +kernel
set_option maxRecDepth 20000 in
theorem ggX7_set_X3_at : GoodIn wsX7_set wsX3_at := goodIn_r _ [8, 9, 10, 11, 12, 7, 13, 94] (by decide +kernel) (by decide +kernel)
set_option maxRecDepth 20000 in
theorem gX7_set_X3_at : GoodIn wsX7_set (wsV RX7 84 RX3 yX3_at wsX3_at) := goodIn_app (goodIn_of _ (by decide +kernel)) ggX7_set_X3_at
set_option maxRecDepth 20000 in
theorem ggX7_set_X2_record : GoodIn wsX7_set wsX2_record := goodIn_r _ [18, 19, 20, 21, 22, 23, 17, 24, 25, 26, 27, 28, 29, 30, 31, 32, 33, 34, 35, 36, 37, 38, 39, 40, 41, 42, 43, 44, 45, 46, 47, 48, 49, 50, 51, 7, 52, 9, 53, 54, 55, 56, 57, 58, 59, 60, 61, 62, 63, 64, 65, 66, 67, 68, 69, 70, 71, 72, 95, 96, 84, 85, 86, 87, 88, 89, 90, 91, 92, 93, 97, 98, 99, 100, 94, 101, 102, 103, 104, 105] (by decide +kernel) (by decide +kernel)
set_option maxRecDepth 20000 in
theorem gX7_set_X2_record : GoodIn wsX7_set (wsV RX7 55 RX2 yX2_record wsX2_record) := goodIn_app (goodIn_of _ (by decide +kernel)) ggX7_set_X2_record
set_option maxRecDepth 20000 in
theorem ggX7_set_X3_put : GoodIn wsX7_set wsX3_put := goodIn_r _ [76, 9, 10, 11, 12, 7, 13, 94] (by decide +kernel) (by decide +kernel)
set_option maxRecDepth 20000 in
theorem gX7_set_X3_put : GoodIn wsX7_set (wsV RX7 90 RX3 yX3_put wsX3_put) := goodIn_app (goodIn_of _ (by decide +kernel)) ggX7_set_X3_put
theorem dX7_set_0 : decode cX7_set 0 = .ok (.iload_n 1, 1) := by decide +kernel
theorem dX7_set_1 : decode cX7_set 1 = .ok (.ifCond .lt 11, 3) := by decide +kernel
theorem dX7_set_4 : decode cX7_set 4 = .ok (.iload_n 1, 1) := by decide +kernel
theorem dX7_set_5 : decode cX7_set 5 = .ok (.getstatic 141, 3) := by decide +kernel
theorem dX7_set_8 : decode cX7_set 8 = .ok (.arraylength, 1) := by decide +kernel
theorem dX7_set_9 : decode cX7_set 9 = .ok (.if_icmp .lt 6, 3) := by decide +kernel
theorem dX7_set_12 : decode cX7_set 12 = .ok (.bipush (-2), 2) := by decide +kernel
theorem dX7_set_14 : decode cX7_set 14 = .ok (.ireturn, 1) := by decide +kernel
theorem dX7_set_15 : decode cX7_set 15 = .ok (.iload_n 2, 1) := by decide +kernel
theorem dX7_set_16 : decode cX7_set 16 = .ok (.ifCond .lt 12, 3) := by decide +kernel
theorem dX7_set_19 : decode cX7_set 19 = .ok (.iload_n 2, 1) := by decide +kernel
theorem dX7_set_20 : decode cX7_set 20 = .ok (.getstatic 141, 3) := by decide +kernel
theorem dX7_set_23 : decode cX7_set 23 = .ok (.iload_n 1, 1) := by decide +kernel
theorem dX7_set_24 : decode cX7_set 24 = .ok (.iaload, 1) := by decide +kernel
theorem dX7_set_25 : decode cX7_set 25 = .ok (.if_icmp .le 6, 3) := by decide +kernel
theorem dX7_set_28 : decode cX7_set 28 = .ok (.bipush (-2), 2) := by decide +kernel
theorem dX7_set_30 : decode cX7_set 30 = .ok (.ireturn, 1) := by decide +kernel
theorem dX7_set_31 : decode cX7_set 31 = .ok (.aload_n 0, 1) := by decide +kernel
theorem dX7_set_32 : decode cX7_set 32 = .ok (.getfield 10, 3) := by decide +kernel
theorem dX7_set_35 : decode cX7_set 35 = .ok (.getfield 145, 3) := by decide +kernel
theorem dX7_set_38 : decode cX7_set 38 = .ok (.iload_n 1, 1) := by decide +kernel
theorem dX7_set_39 : decode cX7_set 39 = .ok (.invokevirtual 84, 3) := by decide +kernel
theorem dX7_set_42 : decode cX7_set 42 = .ok (.istore_n 3, 1) := by decide +kernel
theorem dX7_set_43 : decode cX7_set 43 = .ok (.iload_n 3, 1) := by decide +kernel
theorem dX7_set_44 : decode cX7_set 44 = .ok (.iload_n 2, 1) := by decide +kernel
theorem dX7_set_45 : decode cX7_set 45 = .ok (.if_icmp .ne 6, 3) := by decide +kernel
theorem dX7_set_48 : decode cX7_set 48 = .ok (.bipush (-5), 2) := by decide +kernel
theorem dX7_set_50 : decode cX7_set 50 = .ok (.ireturn, 1) := by decide +kernel
theorem dX7_set_51 : decode cX7_set 51 = .ok (.aload_n 0, 1) := by decide +kernel
theorem dX7_set_52 : decode cX7_set 52 = .ok (.getfield 25, 3) := by decide +kernel
theorem dX7_set_55 : decode cX7_set 55 = .ok (.aload_n 0, 1) := by decide +kernel
theorem dX7_set_56 : decode cX7_set 56 = .ok (.getfield 10, 3) := by decide +kernel
theorem dX7_set_59 : decode cX7_set 59 = .ok (.invokevirtual 55, 3) := by decide +kernel
theorem dX7_set_62 : decode cX7_set 62 = .ok (.aload_n 0, 1) := by decide +kernel
theorem dX7_set_63 : decode cX7_set 63 = .ok (.getfield 10, 3) := by decide +kernel
theorem dX7_set_66 : decode cX7_set 66 = .ok (.getfield 145, 3) := by decide +kernel
theorem dX7_set_69 : decode cX7_set 69 = .ok (.iload_n 1, 1) := by decide +kernel
theorem dX7_set_70 : decode cX7_set 70 = .ok (.iload_n 2, 1) := by decide +kernel
theorem dX7_set_71 : decode cX7_set 71 = .ok (.invokevirtual 90, 3) := by decide +kernel
theorem dX7_set_74 : decode cX7_set 74 = .ok (.iload_n 3, 1) := by decide +kernel
theorem dX7_set_75 : decode cX7_set 75 = .ok (.ireturn, 1) := by decide +kernel
set_option maxRecDepth 20000 in
theorem ggX7_type_X1_add : GoodIn wsX7_type wsX1_add := goodIn_r _ [6, 7, 8, 16, 17] (by decide +kernel) (by decide +kernel)
set_option maxRecDepth 20000 in
theorem gX7_type_X1_add : GoodIn wsX7_type (wsV RX7 151 RX1 yX1_add wsX1_add) := goodIn_app (goodIn_of _ (by decide +kernel)) ggX7_type_X1_add
theorem dX7_type_0 : decode cX7_type 0 = .ok (.aload_n 0, 1) := by decide +kernel
theorem dX7_type_1 : decode cX7_type 1 = .ok (.getfield 32, 3) := by decide +kernel
theorem dX7_type_4 : decode cX7_type 4 = .ok (.getfield 148, 3) := by decide +kernel
theorem dX7_type_7 : decode cX7_type 7 = .ok (.bipush 60, 2) := by decide +kernel
theorem dX7_type_9 : decode cX7_type 9 = .ok (.if_icmp .lt 6, 3) := by decide +kernel
theorem dX7_type_12 : decode cX7_type 12 = .ok (.bipush (-3), 2) := by decide +kernel
theorem dX7_type_14 : decode cX7_type 14 = .ok (.ireturn, 1) := by decide +kernel
theorem dX7_type_15 : decode cX7_type 15 = .ok (.aload_n 0, 1) := by decide +kernel
theorem dX7_type_16 : decode cX7_type 16 = .ok (.getfield 32, 3) := by decide +kernel
theorem dX7_type_19 : decode cX7_type 19 = .ok (.iload_n 1, 1) := by decide +kernel
theorem dX7_type_20 : decode cX7_type 20 = .ok (.invokevirtual 151, 3) := by decide +kernel
theorem dX7_type_23 : decode cX7_type 23 = .ok (.aload_n 0, 1) := by decide +kernel
theorem dX7_type_24 : decode cX7_type 24 = .ok (.getfield 32, 3) := by decide +kernel
theorem dX7_type_27 : decode cX7_type 27 = .ok (.getfield 148, 3) := by decide +kernel
theorem dX7_type_30 : decode cX7_type 30 = .ok (.ireturn, 1) := by decide +kernel
theorem dX7_clearText_0 : decode cX7_clearText 0 = .ok (.aload_n 0, 1) := by decide +kernel
theorem dX7_clearText_1 : decode cX7_clearText 1 = .ok (.getfield 32, 3) := by decide +kernel
theorem dX7_clearText_4 : decode cX7_clearText 4 = .ok (.getfield 148, 3) := by decide +kernel
theorem dX7_clearText_7 : decode cX7_clearText 7 = .ok (.istore_n 1, 1) := by decide +kernel
theorem dX7_clearText_8 : decode cX7_clearText 8 = .ok (.aload_n 0, 1) := by decide +kernel
theorem dX7_clearText_9 : decode cX7_clearText 9 = .ok (.getfield 32, 3) := by decide +kernel
theorem dX7_clearText_12 : decode cX7_clearText 12 = .ok (.iconst 0, 1) := by decide +kernel
theorem dX7_clearText_13 : decode cX7_clearText 13 = .ok (.putfield 148, 3) := by decide +kernel
theorem dX7_clearText_16 : decode cX7_clearText 16 = .ok (.iload_n 1, 1) := by decide +kernel
theorem dX7_clearText_17 : decode cX7_clearText 17 = .ok (.ireturn, 1) := by decide +kernel
set_option maxRecDepth 20000 in
theorem ggX7_undo_X2_takeLatestInto : GoodIn wsX7_undo wsX2_takeLatestInto := goodIn_r _ [7, 8, 9, 10, 11, 12, 13, 14, 15, 16, 17, 18, 19, 20, 21, 22, 23, 24, 25, 26, 27, 28, 29, 30, 31, 32, 33, 34, 35, 36, 37, 38, 39, 40, 41, 42, 43, 44, 45, 46, 47, 48, 49, 50, 51, 52, 53, 54, 55, 56, 57, 58, 59, 67, 68, 69, 70, 71, 72, 73, 74, 75, 76, 77, 78, 79, 80, 81, 82, 83, 84, 85, 86, 87, 88] (by decide +kernel) (by decide +kernel)
set_option maxRecDepth 20000 in
theorem gX7_undo_X2_takeLatestInto : GoodIn wsX7_undo (wsV RX7 156 RX2 yX2_takeLatestInto wsX2_takeLatestInto) := goodIn_app (goodIn_of _ (by decide +kernel)) ggX7_undo_X2_takeLatestInto
theorem dX7_undo_0 : decode cX7_undo 0 = .ok (.aload_n 0, 1) := by decide +kernel
theorem dX7_undo_1 : decode cX7_undo 1 = .ok (.getfield 25, 3) := by decide +kernel
theorem dX7_undo_4 : decode cX7_undo 4 = .ok (.getfield 155, 3) := by decide +kernel
theorem dX7_undo_7 : decode cX7_undo 7 = .ok (.ifCond .ne 6, 3) := by decide +kernel
theorem dX7_undo_10 : decode cX7_undo 10 = .ok (.bipush (-5), 2) := by decide +kernel
theorem dX7_undo_12 : decode cX7_undo 12 = .ok (.ireturn, 1) := by decide +kernel
theorem dX7_undo_13 : decode cX7_undo 13 = .ok (.aload_n 0, 1) := by decide +kernel
theorem dX7_undo_14 : decode cX7_undo 14 = .ok (.getfield 25, 3) := by decide +kernel
theorem dX7_undo_17 : decode cX7_undo 17 = .ok (.aload_n 0, 1) := by decide +kernel
theorem dX7_undo_18 : decode cX7_undo 18 = .ok (.getfield 10, 3) := by decide +kernel
theorem dX7_undo_21 : decode cX7_undo 21 = .ok (.invokevirtual 156, 3) := by decide +kernel
theorem dX7_undo_24 : decode cX7_undo 24 = .ok (.aload_n 0, 1) := by decide +kernel
theorem dX7_undo_25 : decode cX7_undo 25 = .ok (.getfield 25, 3) := by decide +kernel
theorem dX7_undo_28 : decode cX7_undo 28 = .ok (.getfield 155, 3) := by decide +kernel
theorem dX7_undo_31 : decode cX7_undo 31 = .ok (.ireturn, 1) := by decide +kernel
set_option maxRecDepth 20000 in
theorem ggX7_keep_X6_copyFrom : GoodIn wsX7_keep wsX6_copyFrom := goodIn_r _ [8, 9, 10, 11, 12, 13, 14, 15, 16, 17, 18, 19, 20, 21, 22, 23, 24, 25, 26, 27, 28, 29, 30, 31, 32, 33, 34, 35, 36, 37, 38, 39, 40, 41, 42, 43, 44, 45, 46, 47, 48, 49, 50, 51, 52, 53, 61, 62, 63, 64, 65, 66, 67, 68, 69, 70, 76, 77, 78, 79, 80, 71, 72, 73, 74, 75] (by decide +kernel) (by decide +kernel)
set_option maxRecDepth 20000 in
theorem gX7_keep_X6_copyFrom : GoodIn wsX7_keep (wsV RX7 114 RX6 yX6_copyFrom wsX6_copyFrom) := goodIn_app (goodIn_of _ (by decide +kernel)) ggX7_keep_X6_copyFrom
theorem dX7_keep_0 : decode cX7_keep 0 = .ok (.aload_n 0, 1) := by decide +kernel
theorem dX7_keep_1 : decode cX7_keep 1 = .ok (.getfield 19, 3) := by decide +kernel
theorem dX7_keep_4 : decode cX7_keep 4 = .ok (.aload_n 0, 1) := by decide +kernel
theorem dX7_keep_5 : decode cX7_keep 5 = .ok (.getfield 10, 3) := by decide +kernel
theorem dX7_keep_8 : decode cX7_keep 8 = .ok (.invokevirtual 114, 3) := by decide +kernel
theorem dX7_keep_11 : decode cX7_keep 11 = .ok (.aload_n 0, 1) := by decide +kernel
theorem dX7_keep_12 : decode cX7_keep 12 = .ok (.iconst 1, 1) := by decide +kernel
theorem dX7_keep_13 : decode cX7_keep 13 = .ok (.putfield 43, 3) := by decide +kernel
theorem dX7_keep_16 : decode cX7_keep 16 = .ok (.aload_n 0, 1) := by decide +kernel
theorem dX7_keep_17 : decode cX7_keep 17 = .ok (.getfield 10, 3) := by decide +kernel
theorem dX7_keep_20 : decode cX7_keep 20 = .ok (.getfield 119, 3) := by decide +kernel
theorem dX7_keep_23 : decode cX7_keep 23 = .ok (.getfield 132, 3) := by decide +kernel
theorem dX7_keep_26 : decode cX7_keep 26 = .ok (.ireturn, 1) := by decide +kernel
set_option maxRecDepth 20000 in
theorem ggX7_restore_X2_record : GoodIn wsX7_restore wsX2_record := goodIn_r _ [9, 10, 11, 12, 13, 14, 8, 15, 16, 17, 18, 19, 20, 21, 22, 23, 24, 25, 26, 27, 28, 29, 30, 31, 32, 33, 34, 35, 36, 37, 38, 39, 40, 41, 42, 43, 44, 45, 46, 47, 48, 49, 50, 51, 52, 53, 54, 55, 56, 57, 58, 59, 60, 61, 62, 63, 64, 65, 89, 90, 74, 75, 76, 77, 78, 79, 80, 81, 82, 83, 91, 92, 93, 94, 95, 84, 85, 86, 87, 88] (by decide +kernel) (by decide +kernel)
set_option maxRecDepth 20000 in
theorem gX7_restore_X2_record : GoodIn wsX7_restore (wsV RX7 55 RX2 yX2_record wsX2_record) := goodIn_app (goodIn_of _ (by decide +kernel)) ggX7_restore_X2_record
set_option maxRecDepth 20000 in
theorem ggX7_restore_X6_copyFrom : GoodIn wsX7_restore wsX6_copyFrom := goodIn_r _ [20, 21, 22, 23, 24, 25, 26, 27, 28, 29, 30, 31, 32, 33, 34, 35, 36, 37, 38, 39, 40, 41, 42, 43, 44, 45, 46, 47, 48, 49, 50, 51, 52, 53, 54, 55, 56, 57, 58, 59, 60, 61, 62, 63, 64, 65, 74, 75, 76, 77, 78, 79, 80, 81, 82, 83, 91, 92, 93, 94, 95, 84, 85, 86, 87, 88] (by decide +kernel) (by decide +kernel)
set_option maxRecDepth 20000 in
theorem gX7_restore_X6_copyFrom : GoodIn wsX7_restore (wsV RX7 114 RX6 yX6_copyFrom wsX6_copyFrom) := goodIn_app (goodIn_of _ (by decide +kernel)) ggX7_restore_X6_copyFrom
theorem dX7_restore_0 : decode cX7_restore 0 = .ok (.aload_n 0, 1) := by decide +kernel
theorem dX7_restore_1 : decode cX7_restore 1 = .ok (.getfield 43, 3) := by decide +kernel
theorem dX7_restore_4 : decode cX7_restore 4 = .ok (.ifCond .ne 6, 3) := by decide +kernel
theorem dX7_restore_7 : decode cX7_restore 7 = .ok (.bipush (-5), 2) := by decide +kernel
theorem dX7_restore_9 : decode cX7_restore 9 = .ok (.ireturn, 1) := by decide +kernel
theorem dX7_restore_10 : decode cX7_restore 10 = .ok (.aload_n 0, 1) := by decide +kernel
theorem dX7_restore_11 : decode cX7_restore 11 = .ok (.getfield 25, 3) := by decide +kernel
theorem dX7_restore_14 : decode cX7_restore 14 = .ok (.aload_n 0, 1) := by decide +kernel
theorem dX7_restore_15 : decode cX7_restore 15 = .ok (.getfield 10, 3) := by decide +kernel
theorem dX7_restore_18 : decode cX7_restore 18 = .ok (.invokevirtual 55, 3) := by decide +kernel
theorem dX7_restore_21 : decode cX7_restore 21 = .ok (.aload_n 0, 1) := by decide +kernel
theorem dX7_restore_22 : decode cX7_restore 22 = .ok (.getfield 10, 3) := by decide +kernel
theorem dX7_restore_25 : decode cX7_restore 25 = .ok (.aload_n 0, 1) := by decide +kernel
theorem dX7_restore_26 : decode cX7_restore 26 = .ok (.getfield 19, 3) := by decide +kernel
theorem dX7_restore_29 : decode cX7_restore 29 = .ok (.invokevirtual 114, 3) := by decide +kernel
theorem dX7_restore_32 : decode cX7_restore 32 = .ok (.aload_n 0, 1) := by decide +kernel
theorem dX7_restore_33 : decode cX7_restore 33 = .ok (.getfield 10, 3) := by decide +kernel
theorem dX7_restore_36 : decode cX7_restore 36 = .ok (.getfield 119, 3) := by decide +kernel
theorem dX7_restore_39 : decode cX7_restore 39 = .ok (.getfield 132, 3) := by decide +kernel
theorem dX7_restore_42 : decode cX7_restore 42 = .ok (.ireturn, 1) := by decide +kernel
set_option maxRecDepth 20000 in
theorem ggX7_leaf_X3_at : GoodIn wsX7_leaf wsX3_at := goodIn_r _ [6, 7, 8, 9, 10, 5, 11, 37] (by decide +kernel) (by decide +kernel)
set_option maxRecDepth 20000 in
theorem gX7_leaf_X3_at : GoodIn wsX7_leaf (wsV RX7 84 RX3 yX3_at wsX3_at) := goodIn_app (goodIn_of _ (by decide +kernel)) ggX7_leaf_X3_at
set_option maxRecDepth 20000 in
theorem ggX7_leaf_X7_asNumber : GoodIn wsX7_leaf wsX7_asNumber := goodIn_r _ [15] (by decide +kernel) (by decide +kernel)
set_option maxRecDepth 20000 in
theorem gX7_leaf_X7_asNumber : GoodIn wsX7_leaf (va_wsS RX7 165 yX7_asNumber wsX7_asNumber) := goodIn_app (goodIn_of _ (by decide +kernel)) ggX7_leaf_X7_asNumber
theorem dX7_leaf_0 : decode cX7_leaf 0 = .ok (.iload_n 1, 1) := by decide +kernel
theorem dX7_leaf_1 : decode cX7_leaf 1 = .ok (.ifCond .lt 17, 3) := by decide +kernel
theorem dX7_leaf_4 : decode cX7_leaf 4 = .ok (.iload_n 1, 1) := by decide +kernel
theorem dX7_leaf_5 : decode cX7_leaf 5 = .ok (.aload_n 0, 1) := by decide +kernel
theorem dX7_leaf_6 : decode cX7_leaf 6 = .ok (.getfield 10, 3) := by decide +kernel
theorem dX7_leaf_9 : decode cX7_leaf 9 = .ok (.getfield 47, 3) := by decide +kernel
theorem dX7_leaf_12 : decode cX7_leaf 12 = .ok (.getfield 68, 3) := by decide +kernel
theorem dX7_leaf_15 : decode cX7_leaf 15 = .ok (.if_icmp .lt 5, 3) := by decide +kernel
theorem dX7_leaf_18 : decode cX7_leaf 18 = .ok (.iconst (-1), 1) := by decide +kernel
theorem dX7_leaf_19 : decode cX7_leaf 19 = .ok (.ireturn, 1) := by decide +kernel
theorem dX7_leaf_20 : decode cX7_leaf 20 = .ok (.iload_n 2, 1) := by decide +kernel
theorem dX7_leaf_21 : decode cX7_leaf 21 = .ok (.tableswitch 77 0 2 #[27, 42, 57], 27) := by decide +kernel
theorem dX7_leaf_48 : decode cX7_leaf 48 = .ok (.aload_n 0, 1) := by decide +kernel
theorem dX7_leaf_49 : decode cX7_leaf 49 = .ok (.getfield 10, 3) := by decide +kernel
theorem dX7_leaf_52 : decode cX7_leaf 52 = .ok (.getfield 47, 3) := by decide +kernel
theorem dX7_leaf_55 : decode cX7_leaf 55 = .ok (.getfield 159, 3) := by decide +kernel
theorem dX7_leaf_58 : decode cX7_leaf 58 = .ok (.iload_n 1, 1) := by decide +kernel
theorem dX7_leaf_59 : decode cX7_leaf 59 = .ok (.invokevirtual 84, 3) := by decide +kernel
theorem dX7_leaf_62 : decode cX7_leaf 62 = .ok (.ireturn, 1) := by decide +kernel
theorem dX7_leaf_63 : decode cX7_leaf 63 = .ok (.aload_n 0, 1) := by decide +kernel
theorem dX7_leaf_64 : decode cX7_leaf 64 = .ok (.getfield 10, 3) := by decide +kernel
theorem dX7_leaf_67 : decode cX7_leaf 67 = .ok (.getfield 47, 3) := by decide +kernel
theorem dX7_leaf_70 : decode cX7_leaf 70 = .ok (.getfield 162, 3) := by decide +kernel
theorem dX7_leaf_73 : decode cX7_leaf 73 = .ok (.iload_n 1, 1) := by decide +kernel
theorem dX7_leaf_74 : decode cX7_leaf 74 = .ok (.invokevirtual 84, 3) := by decide +kernel
theorem dX7_leaf_77 : decode cX7_leaf 77 = .ok (.ireturn, 1) := by decide +kernel
theorem dX7_leaf_78 : decode cX7_leaf 78 = .ok (.iload_n 1, 1) := by decide +kernel
theorem dX7_leaf_79 : decode cX7_leaf 79 = .ok (.aload_n 0, 1) := by decide +kernel
theorem dX7_leaf_80 : decode cX7_leaf 80 = .ok (.getfield 10, 3) := by decide +kernel
theorem dX7_leaf_83 : decode cX7_leaf 83 = .ok (.getfield 101, 3) := by decide +kernel
theorem dX7_leaf_86 : decode cX7_leaf 86 = .ok (.if_icmp .ge 7, 3) := by decide +kernel
theorem dX7_leaf_89 : decode cX7_leaf 89 = .ok (.iconst 1, 1) := by decide +kernel
theorem dX7_leaf_90 : decode cX7_leaf 90 = .ok (.goto 4, 3) := by decide +kernel
theorem dX7_leaf_93 : decode cX7_leaf 93 = .ok (.iconst 0, 1) := by decide +kernel
theorem dX7_leaf_94 : decode cX7_leaf 94 = .ok (.invokestatic 165, 3) := by decide +kernel
theorem dX7_leaf_97 : decode cX7_leaf 97 = .ok (.ireturn, 1) := by decide +kernel
theorem dX7_leaf_98 : decode cX7_leaf 98 = .ok (.bipush (-2), 2) := by decide +kernel
theorem dX7_leaf_100 : decode cX7_leaf 100 = .ok (.ireturn, 1) := by decide +kernel
set_option maxRecDepth 20000 in
theorem ggX7_page_X0_hasPage : GoodIn wsX7_page wsX0_hasPage := goodIn_r _ [7, 8, 9, 10, 6, 11, 12, 103, 104, 105, 106] (by decide +kernel) (by decide +kernel)
set_option maxRecDepth 20000 in
theorem gX7_page_X0_hasPage : GoodIn wsX7_page (wsV RX7 76 RX0 yX0_hasPage wsX0_hasPage) := goodIn_app (goodIn_of _ (by decide +kernel)) ggX7_page_X0_hasPage
set_option maxRecDepth 20000 in
theorem ggX7_page_X3_at : GoodIn wsX7_page wsX3_at := goodIn_r _ [17, 18, 19, 20, 21, 16, 22, 111] (by decide +kernel) (by decide +kernel)
set_option maxRecDepth 20000 in
theorem gX7_page_X3_at : GoodIn wsX7_page (wsV RX7 84 RX3 yX3_at wsX3_at) := goodIn_app (goodIn_of _ (by decide +kernel)) ggX7_page_X3_at
set_option maxRecDepth 20000 in
theorem ggX7_page_X4_makeFor : GoodIn wsX7_page wsX4_makeFor := goodIn_r _ [27, 28, 29, 30, 31, 32, 9, 10, 6, 11, 12, 33, 34, 35, 16, 36, 18, 37, 38, 39, 40, 41, 42, 43, 26, 44, 45, 14, 15, 17, 19, 20, 21, 22, 46, 47, 48, 49, 50, 51, 52, 53, 4, 5, 7, 8, 54, 55, 56, 57, 58, 59, 60, 61, 93, 94, 95, 96, 97, 98, 99, 100, 101, 102, 112, 113, 114, 115, 116, 107, 108, 109, 110, 103, 104, 105, 106, 111] (by decide +kernel) (by decide +kernel)
set_option maxRecDepth 20000 in
theorem gX7_page_X4_makeFor : GoodIn wsX7_page (wsV RX7 169 RX4 yX4_makeFor wsX4_makeFor) := goodIn_app (goodIn_of _ (by decide +kernel)) ggX7_page_X4_makeFor
set_option maxRecDepth 20000 in
theorem ggX7_page_X5_howManyShow : GoodIn wsX7_page wsX5_howManyShow := goodIn_r _ [65, 66, 67, 52, 14, 15, 16, 17, 18, 19, 20, 21, 22, 112, 113, 114, 115, 116, 111] (by decide +kernel) (by decide +kernel)
set_option maxRecDepth 20000 in
theorem gX7_page_X5_howManyShow : GoodIn wsX7_page (wsV RX7 175 RX5 yX5_howManyShow wsX5_howManyShow) := goodIn_app (goodIn_of _ (by decide +kernel)) ggX7_page_X5_howManyShow
set_option maxRecDepth 20000 in
theorem ggX7_page_X4_isDoubtful : GoodIn wsX7_page wsX4_isDoubtful := goodIn_r _ [71, 30, 45, 14, 15, 16, 17, 18, 19, 20, 21, 22, 107, 108, 109, 110, 112, 113, 114, 115, 116, 111] (by decide +kernel) (by decide +kernel)
set_option maxRecDepth 20000 in
theorem gX7_page_X4_isDoubtful : GoodIn wsX7_page (wsV RX7 178 RX4 yX4_isDoubtful wsX4_isDoubtful) := goodIn_app (goodIn_of _ (by decide +kernel)) ggX7_page_X4_isDoubtful
set_option maxRecDepth 20000 in
theorem ggX7_page_X7_asNumber : GoodIn wsX7_page wsX7_asNumber := goodIn_r _ [75] (by decide +kernel) (by decide +kernel)
set_option maxRecDepth 20000 in
theorem gX7_page_X7_asNumber : GoodIn wsX7_page (va_wsS RX7 165 yX7_asNumber wsX7_asNumber) := goodIn_app (goodIn_of _ (by decide +kernel)) ggX7_page_X7_asNumber
set_option maxRecDepth 20000 in
theorem ggX7_page_X6_gutterIsGood : GoodIn wsX7_page wsX6_gutterIsGood := goodIn_r _ [80, 81, 82, 83, 74, 84, 85, 14, 15, 16, 17, 18, 19, 20, 21, 22, 93, 94, 95, 96, 97, 98, 99, 100, 101, 102, 103, 104, 105, 106, 111] (by decide +kernel) (by decide +kernel)
set_option maxRecDepth 20000 in
theorem gX7_page_X6_gutterIsGood : GoodIn wsX7_page (wsV RX7 182 RX6 yX6_gutterIsGood wsX6_gutterIsGood) := goodIn_app (goodIn_of _ (by decide +kernel)) ggX7_page_X6_gutterIsGood
theorem dX7_page_0 : decode cX7_page 0 = .ok (.aload_n 0, 1) := by decide +kernel
theorem dX7_page_1 : decode cX7_page 1 = .ok (.getfield 10, 3) := by decide +kernel
theorem dX7_page_4 : decode cX7_page 4 = .ok (.getfield 47, 3) := by decide +kernel
theorem dX7_page_7 : decode cX7_page 7 = .ok (.iload_n 1, 1) := by decide +kernel
theorem dX7_page_8 : decode cX7_page 8 = .ok (.invokevirtual 76, 3) := by decide +kernel
theorem dX7_page_11 : decode cX7_page 11 = .ok (.ifCond .ne 5, 3) := by decide +kernel
theorem dX7_page_14 : decode cX7_page 14 = .ok (.iconst (-1), 1) := by decide +kernel
theorem dX7_page_15 : decode cX7_page 15 = .ok (.ireturn, 1) := by decide +kernel
theorem dX7_page_16 : decode cX7_page 16 = .ok (.iload_n 2, 1) := by decide +kernel
theorem dX7_page_17 : decode cX7_page 17 = .ok (.tableswitch 127 0 4 #[35, 50, 73, 85, 115], 35) := by decide +kernel
theorem dX7_page_52 : decode cX7_page 52 = .ok (.aload_n 0, 1) := by decide +kernel
theorem dX7_page_53 : decode cX7_page 53 = .ok (.getfield 10, 3) := by decide +kernel
theorem dX7_page_56 : decode cX7_page 56 = .ok (.getfield 47, 3) := by decide +kernel
theorem dX7_page_59 : decode cX7_page 59 = .ok (.getfield 80, 3) := by decide +kernel
theorem dX7_page_62 : decode cX7_page 62 = .ok (.iload_n 1, 1) := by decide +kernel
theorem dX7_page_63 : decode cX7_page 63 = .ok (.invokevirtual 84, 3) := by decide +kernel
theorem dX7_page_66 : decode cX7_page 66 = .ok (.ireturn, 1) := by decide +kernel
theorem dX7_page_67 : decode cX7_page 67 = .ok (.aload_n 0, 1) := by decide +kernel
theorem dX7_page_68 : decode cX7_page 68 = .ok (.getfield 39, 3) := by decide +kernel
theorem dX7_page_71 : decode cX7_page 71 = .ok (.aload_n 0, 1) := by decide +kernel
theorem dX7_page_72 : decode cX7_page 72 = .ok (.getfield 10, 3) := by decide +kernel
theorem dX7_page_75 : decode cX7_page 75 = .ok (.invokevirtual 169, 3) := by decide +kernel
theorem dX7_page_78 : decode cX7_page 78 = .ok (.aload_n 0, 1) := by decide +kernel
theorem dX7_page_79 : decode cX7_page 79 = .ok (.getfield 39, 3) := by decide +kernel
theorem dX7_page_82 : decode cX7_page 82 = .ok (.getfield 172, 3) := by decide +kernel
theorem dX7_page_85 : decode cX7_page 85 = .ok (.iload_n 1, 1) := by decide +kernel
theorem dX7_page_86 : decode cX7_page 86 = .ok (.invokevirtual 84, 3) := by decide +kernel
theorem dX7_page_89 : decode cX7_page 89 = .ok (.ireturn, 1) := by decide +kernel
theorem dX7_page_90 : decode cX7_page 90 = .ok (.aload_n 0, 1) := by decide +kernel
theorem dX7_page_91 : decode cX7_page 91 = .ok (.getfield 10, 3) := by decide +kernel
theorem dX7_page_94 : decode cX7_page 94 = .ok (.getfield 119, 3) := by decide +kernel
theorem dX7_page_97 : decode cX7_page 97 = .ok (.iload_n 1, 1) := by decide +kernel
theorem dX7_page_98 : decode cX7_page 98 = .ok (.invokevirtual 175, 3) := by decide +kernel
theorem dX7_page_101 : decode cX7_page 101 = .ok (.ireturn, 1) := by decide +kernel
theorem dX7_page_102 : decode cX7_page 102 = .ok (.aload_n 0, 1) := by decide +kernel
theorem dX7_page_103 : decode cX7_page 103 = .ok (.getfield 39, 3) := by decide +kernel
theorem dX7_page_106 : decode cX7_page 106 = .ok (.aload_n 0, 1) := by decide +kernel
theorem dX7_page_107 : decode cX7_page 107 = .ok (.getfield 10, 3) := by decide +kernel
theorem dX7_page_110 : decode cX7_page 110 = .ok (.invokevirtual 169, 3) := by decide +kernel
theorem dX7_page_113 : decode cX7_page 113 = .ok (.aload_n 0, 1) := by decide +kernel
theorem dX7_page_114 : decode cX7_page 114 = .ok (.getfield 39, 3) := by decide +kernel
theorem dX7_page_117 : decode cX7_page 117 = .ok (.iload_n 1, 1) := by decide +kernel
theorem dX7_page_118 : decode cX7_page 118 = .ok (.aload_n 0, 1) := by decide +kernel
theorem dX7_page_119 : decode cX7_page 119 = .ok (.getfield 10, 3) := by decide +kernel
theorem dX7_page_122 : decode cX7_page 122 = .ok (.getfield 119, 3) := by decide +kernel
theorem dX7_page_125 : decode cX7_page 125 = .ok (.invokevirtual 178, 3) := by decide +kernel
theorem dX7_page_128 : decode cX7_page 128 = .ok (.invokestatic 165, 3) := by decide +kernel
theorem dX7_page_131 : decode cX7_page 131 = .ok (.ireturn, 1) := by decide +kernel
theorem dX7_page_132 : decode cX7_page 132 = .ok (.aload_n 0, 1) := by decide +kernel
theorem dX7_page_133 : decode cX7_page 133 = .ok (.getfield 10, 3) := by decide +kernel
theorem dX7_page_136 : decode cX7_page 136 = .ok (.iload_n 1, 1) := by decide +kernel
theorem dX7_page_137 : decode cX7_page 137 = .ok (.invokevirtual 182, 3) := by decide +kernel
theorem dX7_page_140 : decode cX7_page 140 = .ok (.invokestatic 165, 3) := by decide +kernel
theorem dX7_page_143 : decode cX7_page 143 = .ok (.ireturn, 1) := by decide +kernel
theorem dX7_page_144 : decode cX7_page 144 = .ok (.bipush (-2), 2) := by decide +kernel
theorem dX7_page_146 : decode cX7_page 146 = .ok (.ireturn, 1) := by decide +kernel
set_option maxRecDepth 20000 in
theorem ggX7_picture_X5_has : GoodIn wsX7_picture wsX5_has := goodIn_r _ [7, 8, 95, 96, 97, 98, 99] (by decide +kernel) (by decide +kernel)
set_option maxRecDepth 20000 in
theorem gX7_picture_X5_has : GoodIn wsX7_picture (wsV RX7 123 RX5 yX5_has wsX5_has) := goodIn_app (goodIn_of _ (by decide +kernel)) ggX7_picture_X5_has
set_option maxRecDepth 20000 in
theorem ggX7_picture_X3_at : GoodIn wsX7_picture wsX3_at := goodIn_r _ [13, 14, 15, 16, 17, 12, 18, 104] (by decide +kernel) (by decide +kernel)
set_option maxRecDepth 20000 in
theorem gX7_picture_X3_at : GoodIn wsX7_picture (wsV RX7 84 RX3 yX3_at wsX3_at) := goodIn_app (goodIn_of _ (by decide +kernel)) ggX7_picture_X3_at
set_option maxRecDepth 20000 in
theorem ggX7_picture_X5_isGood : GoodIn wsX7_picture wsX5_isGood := goodIn_r _ [22, 23, 24, 10, 11, 12, 13, 14, 15, 16, 17, 18, 95, 96, 97, 98, 99, 104] (by decide +kernel) (by decide +kernel)
set_option maxRecDepth 20000 in
theorem gX7_picture_X5_isGood : GoodIn wsX7_picture (wsV RX7 191 RX5 yX5_isGood wsX5_isGood) := goodIn_app (goodIn_of _ (by decide +kernel)) ggX7_picture_X5_isGood
set_option maxRecDepth 20000 in
theorem ggX7_picture_X7_asNumber : GoodIn wsX7_picture wsX7_asNumber := goodIn_r _ [28] (by decide +kernel) (by decide +kernel)
set_option maxRecDepth 20000 in
theorem gX7_picture_X7_asNumber : GoodIn wsX7_picture (va_wsS RX7 165 yX7_asNumber wsX7_asNumber) := goodIn_app (goodIn_of _ (by decide +kernel)) ggX7_picture_X7_asNumber
set_option maxRecDepth 20000 in
theorem ggX7_picture_X4_makeFor : GoodIn wsX7_picture wsX4_makeFor := goodIn_r _ [33, 34, 35, 36, 37, 38, 39, 40, 41, 42, 43, 44, 45, 46, 12, 47, 14, 48, 49, 50, 51, 52, 53, 54, 32, 55, 56, 10, 11, 13, 15, 16, 17, 18, 57, 20, 21, 6, 22, 23, 24, 58, 59, 60, 61, 62, 63, 64, 65, 66, 67, 68, 69, 70, 85, 86, 87, 88, 89, 90, 91, 92, 93, 94, 95, 96, 97, 98, 99, 100, 101, 102, 103, 105, 106, 107, 108, 104] (by decide +kernel) (by decide +kernel)
set_option maxRecDepth 20000 in
theorem gX7_picture_X4_makeFor : GoodIn wsX7_picture (wsV RX7 169 RX4 yX4_makeFor wsX4_makeFor) := goodIn_app (goodIn_of _ (by decide +kernel)) ggX7_picture_X4_makeFor
set_option maxRecDepth 20000 in
theorem ggX7_picture_X4_isSpare : GoodIn wsX7_picture wsX4_isSpare := goodIn_r _ [74, 37, 36, 56, 10, 11, 12, 13, 14, 15, 16, 17, 18, 100, 101, 102, 103, 104] (by decide +kernel) (by decide +kernel)
set_option maxRecDepth 20000 in
theorem gX7_picture_X4_isSpare : GoodIn wsX7_picture (wsV RX7 197 RX4 yX4_isSpare wsX4_isSpare) := goodIn_app (goodIn_of _ (by decide +kernel)) ggX7_picture_X4_isSpare
set_option maxRecDepth 20000 in
theorem ggX7_picture_X7_isRightPage : GoodIn wsX7_picture wsX7_isRightPage := goodIn_r _ [77] (by decide +kernel) (by decide +kernel)
set_option maxRecDepth 20000 in
theorem gX7_picture_X7_isRightPage : GoodIn wsX7_picture (va_wsS RX7 200 yX7_isRightPage wsX7_isRightPage) := goodIn_app (goodIn_of _ (by decide +kernel)) ggX7_picture_X7_isRightPage
theorem dX7_picture_0 : decode cX7_picture 0 = .ok (.aload_n 0, 1) := by decide +kernel
theorem dX7_picture_1 : decode cX7_picture 1 = .ok (.getfield 10, 3) := by decide +kernel
theorem dX7_picture_4 : decode cX7_picture 4 = .ok (.getfield 119, 3) := by decide +kernel
theorem dX7_picture_7 : decode cX7_picture 7 = .ok (.astore_n 3, 1) := by decide +kernel
theorem dX7_picture_8 : decode cX7_picture 8 = .ok (.aload_n 3, 1) := by decide +kernel
theorem dX7_picture_9 : decode cX7_picture 9 = .ok (.iload_n 1, 1) := by decide +kernel
theorem dX7_picture_10 : decode cX7_picture 10 = .ok (.invokevirtual 123, 3) := by decide +kernel
theorem dX7_picture_13 : decode cX7_picture 13 = .ok (.ifCond .ne 5, 3) := by decide +kernel
theorem dX7_picture_16 : decode cX7_picture 16 = .ok (.iconst (-1), 1) := by decide +kernel
theorem dX7_picture_17 : decode cX7_picture 17 = .ok (.ireturn, 1) := by decide +kernel
theorem dX7_picture_18 : decode cX7_picture 18 = .ok (.iload_n 2, 1) := by decide +kernel
theorem dX7_picture_19 : decode cX7_picture 19 = .ok (.tableswitch 138 0 6 #[41, 50, 59, 68, 91, 114, 129], 41) := by decide +kernel
theorem dX7_picture_60 : decode cX7_picture 60 = .ok (.aload_n 3, 1) := by decide +kernel
theorem dX7_picture_61 : decode cX7_picture 61 = .ok (.getfield 185, 3) := by decide +kernel
theorem dX7_picture_64 : decode cX7_picture 64 = .ok (.iload_n 1, 1) := by decide +kernel
theorem dX7_picture_65 : decode cX7_picture 65 = .ok (.invokevirtual 84, 3) := by decide +kernel
theorem dX7_picture_68 : decode cX7_picture 68 = .ok (.ireturn, 1) := by decide +kernel
theorem dX7_picture_69 : decode cX7_picture 69 = .ok (.aload_n 3, 1) := by decide +kernel
theorem dX7_picture_70 : decode cX7_picture 70 = .ok (.getfield 188, 3) := by decide +kernel
theorem dX7_picture_73 : decode cX7_picture 73 = .ok (.iload_n 1, 1) := by decide +kernel
theorem dX7_picture_74 : decode cX7_picture 74 = .ok (.invokevirtual 84, 3) := by decide +kernel
theorem dX7_picture_77 : decode cX7_picture 77 = .ok (.ireturn, 1) := by decide +kernel
theorem dX7_picture_78 : decode cX7_picture 78 = .ok (.aload_n 3, 1) := by decide +kernel
theorem dX7_picture_79 : decode cX7_picture 79 = .ok (.iload_n 1, 1) := by decide +kernel
theorem dX7_picture_80 : decode cX7_picture 80 = .ok (.invokevirtual 191, 3) := by decide +kernel
theorem dX7_picture_83 : decode cX7_picture 83 = .ok (.invokestatic 165, 3) := by decide +kernel
theorem dX7_picture_86 : decode cX7_picture 86 = .ok (.ireturn, 1) := by decide +kernel
theorem dX7_picture_87 : decode cX7_picture 87 = .ok (.aload_n 0, 1) := by decide +kernel
theorem dX7_picture_88 : decode cX7_picture 88 = .ok (.getfield 39, 3) := by decide +kernel
theorem dX7_picture_91 : decode cX7_picture 91 = .ok (.aload_n 0, 1) := by decide +kernel
theorem dX7_picture_92 : decode cX7_picture 92 = .ok (.getfield 10, 3) := by decide +kernel
theorem dX7_picture_95 : decode cX7_picture 95 = .ok (.invokevirtual 169, 3) := by decide +kernel
theorem dX7_picture_98 : decode cX7_picture 98 = .ok (.aload_n 0, 1) := by decide +kernel
theorem dX7_picture_99 : decode cX7_picture 99 = .ok (.getfield 39, 3) := by decide +kernel
theorem dX7_picture_102 : decode cX7_picture 102 = .ok (.getfield 194, 3) := by decide +kernel
theorem dX7_picture_105 : decode cX7_picture 105 = .ok (.iload_n 1, 1) := by decide +kernel
theorem dX7_picture_106 : decode cX7_picture 106 = .ok (.invokevirtual 84, 3) := by decide +kernel
theorem dX7_picture_109 : decode cX7_picture 109 = .ok (.ireturn, 1) := by decide +kernel
theorem dX7_picture_110 : decode cX7_picture 110 = .ok (.aload_n 0, 1) := by decide +kernel
theorem dX7_picture_111 : decode cX7_picture 111 = .ok (.getfield 39, 3) := by decide +kernel
theorem dX7_picture_114 : decode cX7_picture 114 = .ok (.aload_n 0, 1) := by decide +kernel
theorem dX7_picture_115 : decode cX7_picture 115 = .ok (.getfield 10, 3) := by decide +kernel
theorem dX7_picture_118 : decode cX7_picture 118 = .ok (.invokevirtual 169, 3) := by decide +kernel
theorem dX7_picture_121 : decode cX7_picture 121 = .ok (.aload_n 0, 1) := by decide +kernel
theorem dX7_picture_122 : decode cX7_picture 122 = .ok (.getfield 39, 3) := by decide +kernel
theorem dX7_picture_125 : decode cX7_picture 125 = .ok (.iload_n 1, 1) := by decide +kernel
theorem dX7_picture_126 : decode cX7_picture 126 = .ok (.invokevirtual 197, 3) := by decide +kernel
theorem dX7_picture_129 : decode cX7_picture 129 = .ok (.invokestatic 165, 3) := by decide +kernel
theorem dX7_picture_132 : decode cX7_picture 132 = .ok (.ireturn, 1) := by decide +kernel
theorem dX7_picture_133 : decode cX7_picture 133 = .ok (.aload_n 3, 1) := by decide +kernel
theorem dX7_picture_134 : decode cX7_picture 134 = .ok (.getfield 185, 3) := by decide +kernel
theorem dX7_picture_137 : decode cX7_picture 137 = .ok (.iload_n 1, 1) := by decide +kernel
theorem dX7_picture_138 : decode cX7_picture 138 = .ok (.invokevirtual 84, 3) := by decide +kernel
theorem dX7_picture_141 : decode cX7_picture 141 = .ok (.invokestatic 200, 3) := by decide +kernel
theorem dX7_picture_144 : decode cX7_picture 144 = .ok (.invokestatic 165, 3) := by decide +kernel
theorem dX7_picture_147 : decode cX7_picture 147 = .ok (.ireturn, 1) := by decide +kernel
theorem dX7_picture_148 : decode cX7_picture 148 = .ok (.aload_n 3, 1) := by decide +kernel
theorem dX7_picture_149 : decode cX7_picture 149 = .ok (.getfield 203, 3) := by decide +kernel
theorem dX7_picture_152 : decode cX7_picture 152 = .ok (.iload_n 1, 1) := by decide +kernel
theorem dX7_picture_153 : decode cX7_picture 153 = .ok (.invokevirtual 84, 3) := by decide +kernel
theorem dX7_picture_156 : decode cX7_picture 156 = .ok (.ireturn, 1) := by decide +kernel
theorem dX7_picture_157 : decode cX7_picture 157 = .ok (.bipush (-2), 2) := by decide +kernel
theorem dX7_picture_159 : decode cX7_picture 159 = .ok (.ireturn, 1) := by decide +kernel
set_option maxRecDepth 20000 in
theorem ggX7_open_X6_openOnLeft : GoodIn wsX7_open wsX6_openOnLeft := goodIn_r _ [6, 7, 24, 25, 26, 27, 28, 29, 30, 31, 32, 33] (by decide +kernel) (by decide +kernel)
set_option maxRecDepth 20000 in
theorem gX7_open_X6_openOnLeft : GoodIn wsX7_open (wsV RX7 206 RX6 yX6_openOnLeft wsX6_openOnLeft) := goodIn_app (goodIn_of _ (by decide +kernel)) ggX7_open_X6_openOnLeft
set_option maxRecDepth 20000 in
theorem ggX7_open_X6_openOnRight : GoodIn wsX7_open wsX6_openOnRight := goodIn_r _ [11, 7, 12, 13, 14, 5, 15, 16, 24, 25, 26, 27, 28, 29, 30, 31, 32, 33, 34, 35, 36, 37] (by decide +kernel) (by decide +kernel)
set_option maxRecDepth 20000 in
theorem gX7_open_X6_openOnRight : GoodIn wsX7_open (wsV RX7 209 RX6 yX6_openOnRight wsX6_openOnRight) := goodIn_app (goodIn_of _ (by decide +kernel)) ggX7_open_X6_openOnRight
theorem dX7_open_0 : decode cX7_open 0 = .ok (.iload_n 1, 1) := by decide +kernel
theorem dX7_open_1 : decode cX7_open 1 = .ok (.ifCond .ne 11, 3) := by decide +kernel
theorem dX7_open_4 : decode cX7_open 4 = .ok (.aload_n 0, 1) := by decide +kernel
theorem dX7_open_5 : decode cX7_open 5 = .ok (.getfield 10, 3) := by decide +kernel
theorem dX7_open_8 : decode cX7_open 8 = .ok (.invokevirtual 206, 3) := by decide +kernel
theorem dX7_open_11 : decode cX7_open 11 = .ok (.ireturn, 1) := by decide +kernel
theorem dX7_open_12 : decode cX7_open 12 = .ok (.iload_n 1, 1) := by decide +kernel
theorem dX7_open_13 : decode cX7_open 13 = .ok (.iconst 1, 1) := by decide +kernel
theorem dX7_open_14 : decode cX7_open 14 = .ok (.if_icmp .ne 11, 3) := by decide +kernel
theorem dX7_open_17 : decode cX7_open 17 = .ok (.aload_n 0, 1) := by decide +kernel
theorem dX7_open_18 : decode cX7_open 18 = .ok (.getfield 10, 3) := by decide +kernel
theorem dX7_open_21 : decode cX7_open 21 = .ok (.invokevirtual 209, 3) := by decide +kernel
theorem dX7_open_24 : decode cX7_open 24 = .ok (.ireturn, 1) := by decide +kernel
theorem dX7_open_25 : decode cX7_open 25 = .ok (.bipush (-2), 2) := by decide +kernel
theorem dX7_open_27 : decode cX7_open 27 = .ok (.ireturn, 1) := by decide +kernel
set_option maxRecDepth 20000 in
theorem ggX7_would_X7_isSuction : GoodIn wsX7_would wsX7_isSuction := goodIn_r _ [5] (by decide +kernel) (by decide +kernel)
set_option maxRecDepth 20000 in
theorem gX7_would_X7_isSuction : GoodIn wsX7_would (va_wsS RX7 135 yX7_isSuction wsX7_isSuction) := goodIn_app (goodIn_of _ (by decide +kernel)) ggX7_would_X7_isSuction
set_option maxRecDepth 20000 in
theorem ggX7_would_X6_leavesOnRight : GoodIn wsX7_would wsX6_leavesOnRight := goodIn_r _ [10, 11, 12, 34, 35, 36, 37, 38, 39, 40, 41, 42, 43, 44, 45, 46, 47] (by decide +kernel) (by decide +kernel)
set_option maxRecDepth 20000 in
theorem gX7_would_X6_leavesOnRight : GoodIn wsX7_would (wsV RX7 94 RX6 yX6_leavesOnRight wsX6_leavesOnRight) := goodIn_app (goodIn_of _ (by decide +kernel)) ggX7_would_X6_leavesOnRight
set_option maxRecDepth 20000 in
theorem ggX7_would_X6_liftedBy : GoodIn wsX7_would wsX6_liftedBy := goodIn_r _ [16, 12, 11, 17, 18, 19, 20, 21, 22, 23, 24, 25, 26, 34, 35, 36, 37, 38, 39, 40, 41, 42, 43, 44, 45, 46, 47, 48] (by decide +kernel) (by decide +kernel)
set_option maxRecDepth 20000 in
theorem gX7_would_X6_liftedBy : GoodIn wsX7_would (wsV RX7 212 RX6 yX6_liftedBy wsX6_liftedBy) := goodIn_app (goodIn_of _ (by decide +kernel)) ggX7_would_X6_liftedBy
theorem dX7_would_0 : decode cX7_would 0 = .ok (.iload_n 1, 1) := by decide +kernel
theorem dX7_would_1 : decode cX7_would 1 = .ok (.invokestatic 135, 3) := by decide +kernel
theorem dX7_would_4 : decode cX7_would 4 = .ok (.ifCond .ne 6, 3) := by decide +kernel
theorem dX7_would_7 : decode cX7_would 7 = .ok (.bipush (-2), 2) := by decide +kernel
theorem dX7_would_9 : decode cX7_would 9 = .ok (.ireturn, 1) := by decide +kernel
theorem dX7_would_10 : decode cX7_would 10 = .ok (.aload_n 0, 1) := by decide +kernel
theorem dX7_would_11 : decode cX7_would 11 = .ok (.getfield 10, 3) := by decide +kernel
theorem dX7_would_14 : decode cX7_would 14 = .ok (.invokevirtual 94, 3) := by decide +kernel
theorem dX7_would_17 : decode cX7_would 17 = .ok (.ifCond .ne 6, 3) := by decide +kernel
theorem dX7_would_20 : decode cX7_would 20 = .ok (.bipush (-4), 2) := by decide +kernel
theorem dX7_would_22 : decode cX7_would 22 = .ok (.ireturn, 1) := by decide +kernel
theorem dX7_would_23 : decode cX7_would 23 = .ok (.aload_n 0, 1) := by decide +kernel
theorem dX7_would_24 : decode cX7_would 24 = .ok (.getfield 10, 3) := by decide +kernel
theorem dX7_would_27 : decode cX7_would 27 = .ok (.iload_n 1, 1) := by decide +kernel
theorem dX7_would_28 : decode cX7_would 28 = .ok (.invokevirtual 212, 3) := by decide +kernel
theorem dX7_would_31 : decode cX7_would 31 = .ok (.ireturn, 1) := by decide +kernel
set_option maxRecDepth 20000 in
theorem ggX7_best_X6_leavesOnRight : GoodIn wsX7_best wsX6_leavesOnRight := goodIn_r _ [6, 7, 8, 30, 31, 32, 33, 34, 35, 36, 37, 38, 39, 40, 41, 42, 43] (by decide +kernel) (by decide +kernel)
set_option maxRecDepth 20000 in
theorem gX7_best_X6_leavesOnRight : GoodIn wsX7_best (wsV RX7 94 RX6 yX6_leavesOnRight wsX6_leavesOnRight) := goodIn_app (goodIn_of _ (by decide +kernel)) ggX7_best_X6_leavesOnRight
set_option maxRecDepth 20000 in
theorem ggX7_best_X6_liftedBy : GoodIn wsX7_best wsX6_liftedBy := goodIn_r _ [12, 8, 7, 13, 14, 15, 16, 17, 18, 19, 20, 21, 22, 30, 31, 32, 33, 34, 35, 36, 37, 38, 39, 40, 41, 42, 43, 44] (by decide +kernel) (by decide +kernel)
set_option maxRecDepth 20000 in
theorem gX7_best_X6_liftedBy : GoodIn wsX7_best (wsV RX7 212 RX6 yX6_liftedBy wsX6_liftedBy) := goodIn_app (goodIn_of _ (by decide +kernel)) ggX7_best_X6_liftedBy
theorem dX7_best_0 : decode cX7_best 0 = .ok (.aload_n 0, 1) := by decide +kernel
theorem dX7_best_1 : decode cX7_best 1 = .ok (.getfield 10, 3) := by decide +kernel
theorem dX7_best_4 : decode cX7_best 4 = .ok (.invokevirtual 94, 3) := by decide +kernel
theorem dX7_best_7 : decode cX7_best 7 = .ok (.ifCond .ne 6, 3) := by decide +kernel
theorem dX7_best_10 : decode cX7_best 10 = .ok (.bipush (-4), 2) := by decide +kernel
theorem dX7_best_12 : decode cX7_best 12 = .ok (.ireturn, 1) := by decide +kernel
theorem dX7_best_13 : decode cX7_best 13 = .ok (.iconst 1, 1) := by decide +kernel
theorem dX7_best_14 : decode cX7_best 14 = .ok (.istore_n 1, 1) := by decide +kernel
theorem dX7_best_15 : decode cX7_best 15 = .ok (.iload_n 1, 1) := by decide +kernel
theorem dX7_best_16 : decode cX7_best 16 = .ok (.bipush 20, 2) := by decide +kernel
theorem dX7_best_18 : decode cX7_best 18 = .ok (.if_icmp .gt 23, 3) := by decide +kernel
theorem dX7_best_21 : decode cX7_best 21 = .ok (.aload_n 0, 1) := by decide +kernel
theorem dX7_best_22 : decode cX7_best 22 = .ok (.getfield 10, 3) := by decide +kernel
theorem dX7_best_25 : decode cX7_best 25 = .ok (.iload_n 1, 1) := by decide +kernel
theorem dX7_best_26 : decode cX7_best 26 = .ok (.invokevirtual 212, 3) := by decide +kernel
theorem dX7_best_29 : decode cX7_best 29 = .ok (.iconst 1, 1) := by decide +kernel
theorem dX7_best_30 : decode cX7_best 30 = .ok (.if_icmp .ne 5, 3) := by decide +kernel
theorem dX7_best_33 : decode cX7_best 33 = .ok (.iload_n 1, 1) := by decide +kernel
theorem dX7_best_34 : decode cX7_best 34 = .ok (.ireturn, 1) := by decide +kernel
theorem dX7_best_35 : decode cX7_best 35 = .ok (.iinc 1 1, 3) := by decide +kernel
theorem dX7_best_38 : decode cX7_best 38 = .ok (.goto (-23), 3) := by decide +kernel
theorem dX7_best_41 : decode cX7_best 41 = .ok (.bipush (-5), 2) := by decide +kernel
theorem dX7_best_43 : decode cX7_best 43 = .ok (.ireturn, 1) := by decide +kernel
set_option maxRecDepth 20000 in
theorem ggX7_lacking_X4_makeFor : GoodIn wsX7_lacking wsX4_makeFor := goodIn_r _ [7, 8, 9, 10, 11, 12, 13, 14, 15, 16, 17, 18, 19, 20, 21, 22, 23, 24, 25, 26, 27, 28, 29, 30, 6, 31, 32, 33, 34, 35, 36, 37, 38, 39, 40, 41, 42, 43, 44, 45, 46, 47, 48, 49, 50, 51, 52, 53, 54, 55, 56, 57, 58, 59, 71, 72, 73, 74, 75, 76, 77, 78, 79, 80, 81, 82, 83, 84, 85, 86, 87, 88, 89, 90, 91, 92, 93, 94] (by decide +kernel) (by decide +kernel)
set_option maxRecDepth 20000 in
theorem gX7_lacking_X4_makeFor : GoodIn wsX7_lacking (wsV RX7 169 RX4 yX4_makeFor wsX4_makeFor) := goodIn_app (goodIn_of _ (by decide +kernel)) ggX7_lacking_X4_makeFor
set_option maxRecDepth 20000 in
theorem ggX7_lacking_X4_lackingAt : GoodIn wsX7_lacking wsX4_lackingAt := goodIn_r _ [63, 9, 10, 32, 33, 34, 21, 35, 23, 36, 37, 38, 39, 86, 87, 88, 89, 94] (by decide +kernel) (by decide +kernel)
set_option maxRecDepth 20000 in
theorem gX7_lacking_X4_lackingAt : GoodIn wsX7_lacking (wsV RX7 215 RX4 yX4_lackingAt wsX4_lackingAt) := goodIn_app (goodIn_of _ (by decide +kernel)) ggX7_lacking_X4_lackingAt
theorem dX7_lacking_0 : decode cX7_lacking 0 = .ok (.iload_n 1, 1) := by decide +kernel
theorem dX7_lacking_1 : decode cX7_lacking 1 = .ok (.ifCond .ge 6, 3) := by decide +kernel
theorem dX7_lacking_4 : decode cX7_lacking 4 = .ok (.bipush (-2), 2) := by decide +kernel
theorem dX7_lacking_6 : decode cX7_lacking 6 = .ok (.ireturn, 1) := by decide +kernel
theorem dX7_lacking_7 : decode cX7_lacking 7 = .ok (.aload_n 0, 1) := by decide +kernel
theorem dX7_lacking_8 : decode cX7_lacking 8 = .ok (.getfield 39, 3) := by decide +kernel
theorem dX7_lacking_11 : decode cX7_lacking 11 = .ok (.aload_n 0, 1) := by decide +kernel
theorem dX7_lacking_12 : decode cX7_lacking 12 = .ok (.getfield 10, 3) := by decide +kernel
theorem dX7_lacking_15 : decode cX7_lacking 15 = .ok (.invokevirtual 169, 3) := by decide +kernel
theorem dX7_lacking_18 : decode cX7_lacking 18 = .ok (.aload_n 0, 1) := by decide +kernel
theorem dX7_lacking_19 : decode cX7_lacking 19 = .ok (.getfield 39, 3) := by decide +kernel
theorem dX7_lacking_22 : decode cX7_lacking 22 = .ok (.iload_n 1, 1) := by decide +kernel
theorem dX7_lacking_23 : decode cX7_lacking 23 = .ok (.invokevirtual 215, 3) := by decide +kernel
theorem dX7_lacking_26 : decode cX7_lacking 26 = .ok (.ireturn, 1) := by decide +kernel
set_option maxRecDepth 20000 in
theorem ggX7_count_X7_countInSet : GoodIn wsX7_count wsX7_countInSet := goodIn_r _ [8, 9, 1, 10, 11, 12, 13, 14, 15, 16, 17, 18, 19, 20, 21, 22, 23, 24, 25, 26, 27, 28, 29, 30, 31, 32, 33, 34, 35, 36, 37, 38, 39, 40, 41, 42, 43, 44, 45, 46, 47, 48, 49, 50, 51, 52, 53, 54, 55, 56, 57, 58, 59, 60, 61, 62, 63, 64, 65, 66, 67, 68, 69, 70, 71, 72, 73, 74, 75, 76, 77, 78, 79, 80, 81, 82, 83, 84, 85, 86, 87, 88, 89, 90, 92, 93, 94, 95, 96, 97, 98, 99, 100, 101, 102, 103, 104, 105, 106, 107, 108, 113, 114, 115, 116, 117, 122, 123, 124, 125, 109, 110, 111, 112, 126] (by decide +kernel) (by decide +kernel)
set_option maxRecDepth 20000 in
theorem gX7_count_X7_countInSet : GoodIn wsX7_count (wsV RX7 218 RX7 yX7_countInSet wsX7_countInSet) := goodIn_app (goodIn_of _ (by decide +kernel)) ggX7_count_X7_countInSet
set_option maxRecDepth 20000 in
theorem ggX7_count_X3_at : GoodIn wsX7_count wsX3_at := goodIn_r _ [42, 30, 43, 44, 45, 28, 46, 126] (by decide +kernel) (by decide +kernel)
set_option maxRecDepth 20000 in
theorem gX7_count_X3_at : GoodIn wsX7_count (wsV RX7 84 RX3 yX3_at wsX3_at) := goodIn_app (goodIn_of _ (by decide +kernel)) ggX7_count_X3_at
theorem dX7_count_0 : decode cX7_count 0 = .ok (.iload_n 1, 1) := by decide +kernel
theorem dX7_count_1 : decode cX7_count 1 = .ok (.tableswitch 211 0 16 #[83, 94, 102, 113, 113, 113, 113, 119, 127, 135, 143, 151, 163, 175, 187, 195, 203], 83) := by decide +kernel
theorem dX7_count_84 : decode cX7_count 84 = .ok (.aload_n 0, 1) := by decide +kernel
theorem dX7_count_85 : decode cX7_count 85 = .ok (.getfield 10, 3) := by decide +kernel
theorem dX7_count_88 : decode cX7_count 88 = .ok (.getfield 47, 3) := by decide +kernel
theorem dX7_count_91 : decode cX7_count 91 = .ok (.getfield 68, 3) := by decide +kernel
theorem dX7_count_94 : decode cX7_count 94 = .ok (.ireturn, 1) := by decide +kernel
theorem dX7_count_95 : decode cX7_count 95 = .ok (.aload_n 0, 1) := by decide +kernel
theorem dX7_count_96 : decode cX7_count 96 = .ok (.getfield 10, 3) := by decide +kernel
theorem dX7_count_99 : decode cX7_count 99 = .ok (.getfield 101, 3) := by decide +kernel
theorem dX7_count_102 : decode cX7_count 102 = .ok (.ireturn, 1) := by decide +kernel
theorem dX7_count_103 : decode cX7_count 103 = .ok (.aload_n 0, 1) := by decide +kernel
theorem dX7_count_104 : decode cX7_count 104 = .ok (.getfield 10, 3) := by decide +kernel
theorem dX7_count_107 : decode cX7_count 107 = .ok (.getfield 119, 3) := by decide +kernel
theorem dX7_count_110 : decode cX7_count 110 = .ok (.getfield 132, 3) := by decide +kernel
theorem dX7_count_113 : decode cX7_count 113 = .ok (.ireturn, 1) := by decide +kernel
theorem dX7_count_114 : decode cX7_count 114 = .ok (.aload_n 0, 1) := by decide +kernel
theorem dX7_count_115 : decode cX7_count 115 = .ok (.iload_n 1, 1) := by decide +kernel
theorem dX7_count_116 : decode cX7_count 116 = .ok (.invokevirtual 218, 3) := by decide +kernel
theorem dX7_count_119 : decode cX7_count 119 = .ok (.ireturn, 1) := by decide +kernel
theorem dX7_count_120 : decode cX7_count 120 = .ok (.aload_n 0, 1) := by decide +kernel
theorem dX7_count_121 : decode cX7_count 121 = .ok (.getfield 10, 3) := by decide +kernel
theorem dX7_count_124 : decode cX7_count 124 = .ok (.getfield 221, 3) := by decide +kernel
theorem dX7_count_127 : decode cX7_count 127 = .ok (.ireturn, 1) := by decide +kernel
theorem dX7_count_128 : decode cX7_count 128 = .ok (.aload_n 0, 1) := by decide +kernel
theorem dX7_count_129 : decode cX7_count 129 = .ok (.getfield 10, 3) := by decide +kernel
theorem dX7_count_132 : decode cX7_count 132 = .ok (.getfield 224, 3) := by decide +kernel
theorem dX7_count_135 : decode cX7_count 135 = .ok (.ireturn, 1) := by decide +kernel
theorem dX7_count_136 : decode cX7_count 136 = .ok (.aload_n 0, 1) := by decide +kernel
theorem dX7_count_137 : decode cX7_count 137 = .ok (.getfield 10, 3) := by decide +kernel
theorem dX7_count_140 : decode cX7_count 140 = .ok (.getfield 227, 3) := by decide +kernel
theorem dX7_count_143 : decode cX7_count 143 = .ok (.ireturn, 1) := by decide +kernel
theorem dX7_count_144 : decode cX7_count 144 = .ok (.aload_n 0, 1) := by decide +kernel
theorem dX7_count_145 : decode cX7_count 145 = .ok (.getfield 10, 3) := by decide +kernel
theorem dX7_count_148 : decode cX7_count 148 = .ok (.getfield 138, 3) := by decide +kernel
theorem dX7_count_151 : decode cX7_count 151 = .ok (.ireturn, 1) := by decide +kernel
theorem dX7_count_152 : decode cX7_count 152 = .ok (.aload_n 0, 1) := by decide +kernel
theorem dX7_count_153 : decode cX7_count 153 = .ok (.getfield 10, 3) := by decide +kernel
theorem dX7_count_156 : decode cX7_count 156 = .ok (.getfield 145, 3) := by decide +kernel
theorem dX7_count_159 : decode cX7_count 159 = .ok (.iconst 0, 1) := by decide +kernel
theorem dX7_count_160 : decode cX7_count 160 = .ok (.invokevirtual 84, 3) := by decide +kernel
theorem dX7_count_163 : decode cX7_count 163 = .ok (.ireturn, 1) := by decide +kernel
theorem dX7_count_164 : decode cX7_count 164 = .ok (.aload_n 0, 1) := by decide +kernel
theorem dX7_count_165 : decode cX7_count 165 = .ok (.getfield 10, 3) := by decide +kernel
theorem dX7_count_168 : decode cX7_count 168 = .ok (.getfield 145, 3) := by decide +kernel
theorem dX7_count_171 : decode cX7_count 171 = .ok (.iconst 1, 1) := by decide +kernel
theorem dX7_count_172 : decode cX7_count 172 = .ok (.invokevirtual 84, 3) := by decide +kernel
theorem dX7_count_175 : decode cX7_count 175 = .ok (.ireturn, 1) := by decide +kernel
theorem dX7_count_176 : decode cX7_count 176 = .ok (.aload_n 0, 1) := by decide +kernel
theorem dX7_count_177 : decode cX7_count 177 = .ok (.getfield 10, 3) := by decide +kernel
theorem dX7_count_180 : decode cX7_count 180 = .ok (.getfield 145, 3) := by decide +kernel
theorem dX7_count_183 : decode cX7_count 183 = .ok (.iconst 2, 1) := by decide +kernel
theorem dX7_count_184 : decode cX7_count 184 = .ok (.invokevirtual 84, 3) := by decide +kernel
theorem dX7_count_187 : decode cX7_count 187 = .ok (.ireturn, 1) := by decide +kernel
theorem dX7_count_188 : decode cX7_count 188 = .ok (.aload_n 0, 1) := by decide +kernel
theorem dX7_count_189 : decode cX7_count 189 = .ok (.getfield 10, 3) := by decide +kernel
theorem dX7_count_192 : decode cX7_count 192 = .ok (.getfield 230, 3) := by decide +kernel
theorem dX7_count_195 : decode cX7_count 195 = .ok (.ireturn, 1) := by decide +kernel
theorem dX7_count_196 : decode cX7_count 196 = .ok (.aload_n 0, 1) := by decide +kernel
theorem dX7_count_197 : decode cX7_count 197 = .ok (.getfield 25, 3) := by decide +kernel
theorem dX7_count_200 : decode cX7_count 200 = .ok (.getfield 155, 3) := by decide +kernel
theorem dX7_count_203 : decode cX7_count 203 = .ok (.ireturn, 1) := by decide +kernel
theorem dX7_count_204 : decode cX7_count 204 = .ok (.aload_n 0, 1) := by decide +kernel
theorem dX7_count_205 : decode cX7_count 205 = .ok (.getfield 32, 3) := by decide +kernel
theorem dX7_count_208 : decode cX7_count 208 = .ok (.getfield 148, 3) := by decide +kernel
theorem dX7_count_211 : decode cX7_count 211 = .ok (.ireturn, 1) := by decide +kernel
theorem dX7_count_212 : decode cX7_count 212 = .ok (.bipush (-2), 2) := by decide +kernel
theorem dX7_count_214 : decode cX7_count 214 = .ok (.ireturn, 1) := by decide +kernel
set_option maxRecDepth 20000 in
theorem ggX7_countInSet_X4_makeFor : GoodIn wsX7_countInSet wsX4_makeFor := goodIn_r _ [7, 8, 9, 10, 11, 12, 13, 14, 15, 16, 17, 18, 19, 20, 21, 22, 23, 24, 25, 26, 27, 28, 29, 30, 6, 31, 32, 33, 34, 35, 36, 37, 38, 39, 40, 41, 42, 43, 44, 45, 46, 47, 48, 49, 50, 51, 52, 53, 54, 55, 56, 57, 58, 59, 91, 92, 93, 94, 95, 96, 97, 98, 99, 100, 101, 102, 103, 104, 105, 106, 107, 108, 109, 110, 111, 112, 113, 114] (by decide +kernel) (by decide +kernel)
set_option maxRecDepth 20000 in
theorem gX7_countInSet_X4_makeFor : GoodIn wsX7_countInSet (wsV RX7 169 RX4 yX4_makeFor wsX4_makeFor) := goodIn_app (goodIn_of _ (by decide +kernel)) ggX7_countInSet_X4_makeFor
set_option maxRecDepth 20000 in
theorem ggX7_countInSet_X4_howManyLack : GoodIn wsX7_countInSet wsX4_howManyLack := goodIn_r _ [63, 9, 10, 32, 33, 34, 21, 35, 23, 36, 37, 38, 39, 106, 107, 108, 109, 114] (by decide +kernel) (by decide +kernel)
set_option maxRecDepth 20000 in
theorem gX7_countInSet_X4_howManyLack : GoodIn wsX7_countInSet (wsV RX7 232 RX4 yX4_howManyLack wsX4_howManyLack) := goodIn_app (goodIn_of _ (by decide +kernel)) ggX7_countInSet_X4_howManyLack
set_option maxRecDepth 20000 in
theorem ggX7_countInSet_X4_howManyDoubtful : GoodIn wsX7_countInSet wsX4_howManyDoubtful := goodIn_r _ [67, 9, 68, 69, 70, 6, 71, 10, 32, 33, 34, 21, 35, 23, 36, 37, 38, 39, 106, 107, 108, 109, 101, 102, 103, 104, 105, 114] (by decide +kernel) (by decide +kernel)
set_option maxRecDepth 20000 in
theorem gX7_countInSet_X4_howManyDoubtful : GoodIn wsX7_countInSet (wsV RX7 235 RX4 yX4_howManyDoubtful wsX4_howManyDoubtful) := goodIn_app (goodIn_of _ (by decide +kernel)) ggX7_countInSet_X4_howManyDoubtful
set_option maxRecDepth 20000 in
theorem ggX7_countInSet_X4_howManySpare : GoodIn wsX7_countInSet wsX4_howManySpare := goodIn_r _ [75, 8, 76, 77, 78, 6, 79, 11, 10, 32, 33, 34, 21, 35, 23, 36, 37, 38, 39, 106, 107, 108, 109, 114] (by decide +kernel) (by decide +kernel)
set_option maxRecDepth 20000 in
theorem gX7_countInSet_X4_howManySpare : GoodIn wsX7_countInSet (wsV RX7 239 RX4 yX4_howManySpare wsX4_howManySpare) := goodIn_app (goodIn_of _ (by decide +kernel)) ggX7_countInSet_X4_howManySpare
set_option maxRecDepth 20000 in
theorem ggX7_countInSet_X4_howManyNotGuessed : GoodIn wsX7_countInSet wsX4_howManyNotGuessed := goodIn_r _ [83, 8, 11, 32, 33, 34, 21, 35, 23, 36, 37, 38, 39, 106, 107, 108, 109, 114] (by decide +kernel) (by decide +kernel)
set_option maxRecDepth 20000 in
theorem gX7_countInSet_X4_howManyNotGuessed : GoodIn wsX7_countInSet (wsV RX7 242 RX4 yX4_howManyNotGuessed wsX4_howManyNotGuessed) := goodIn_app (goodIn_of _ (by decide +kernel)) ggX7_countInSet_X4_howManyNotGuessed
theorem dX7_countInSet_0 : decode cX7_countInSet 0 = .ok (.aload_n 0, 1) := by decide +kernel
theorem dX7_countInSet_1 : decode cX7_countInSet 1 = .ok (.getfield 39, 3) := by decide +kernel
theorem dX7_countInSet_4 : decode cX7_countInSet 4 = .ok (.aload_n 0, 1) := by decide +kernel
theorem dX7_countInSet_5 : decode cX7_countInSet 5 = .ok (.getfield 10, 3) := by decide +kernel
theorem dX7_countInSet_8 : decode cX7_countInSet 8 = .ok (.invokevirtual 169, 3) := by decide +kernel
theorem dX7_countInSet_11 : decode cX7_countInSet 11 = .ok (.iload_n 1, 1) := by decide +kernel
theorem dX7_countInSet_12 : decode cX7_countInSet 12 = .ok (.tableswitch 71 3 6 #[32, 40, 55, 63], 32) := by decide +kernel
theorem dX7_countInSet_44 : decode cX7_countInSet 44 = .ok (.aload_n 0, 1) := by decide +kernel
theorem dX7_countInSet_45 : decode cX7_countInSet 45 = .ok (.getfield 39, 3) := by decide +kernel
theorem dX7_countInSet_48 : decode cX7_countInSet 48 = .ok (.invokevirtual 232, 3) := by decide +kernel
theorem dX7_countInSet_51 : decode cX7_countInSet 51 = .ok (.ireturn, 1) := by decide +kernel
theorem dX7_countInSet_52 : decode cX7_countInSet 52 = .ok (.aload_n 0, 1) := by decide +kernel
theorem dX7_countInSet_53 : decode cX7_countInSet 53 = .ok (.getfield 39, 3) := by decide +kernel
theorem dX7_countInSet_56 : decode cX7_countInSet 56 = .ok (.aload_n 0, 1) := by decide +kernel
theorem dX7_countInSet_57 : decode cX7_countInSet 57 = .ok (.getfield 10, 3) := by decide +kernel
theorem dX7_countInSet_60 : decode cX7_countInSet 60 = .ok (.getfield 119, 3) := by decide +kernel
theorem dX7_countInSet_63 : decode cX7_countInSet 63 = .ok (.invokevirtual 235, 3) := by decide +kernel
theorem dX7_countInSet_66 : decode cX7_countInSet 66 = .ok (.ireturn, 1) := by decide +kernel
theorem dX7_countInSet_67 : decode cX7_countInSet 67 = .ok (.aload_n 0, 1) := by decide +kernel
theorem dX7_countInSet_68 : decode cX7_countInSet 68 = .ok (.getfield 39, 3) := by decide +kernel
theorem dX7_countInSet_71 : decode cX7_countInSet 71 = .ok (.invokevirtual 239, 3) := by decide +kernel
theorem dX7_countInSet_74 : decode cX7_countInSet 74 = .ok (.ireturn, 1) := by decide +kernel
theorem dX7_countInSet_75 : decode cX7_countInSet 75 = .ok (.aload_n 0, 1) := by decide +kernel
theorem dX7_countInSet_76 : decode cX7_countInSet 76 = .ok (.getfield 39, 3) := by decide +kernel
theorem dX7_countInSet_79 : decode cX7_countInSet 79 = .ok (.invokevirtual 242, 3) := by decide +kernel
theorem dX7_countInSet_82 : decode cX7_countInSet 82 = .ok (.ireturn, 1) := by decide +kernel
theorem dX7_countInSet_83 : decode cX7_countInSet 83 = .ok (.bipush (-2), 2) := by decide +kernel
theorem dX7_countInSet_85 : decode cX7_countInSet 85 = .ok (.ireturn, 1) := by decide +kernel
theorem dX7_isSuction_0 : decode cX7_isSuction 0 = .ok (.iload_n 0, 1) := by decide +kernel
theorem dX7_isSuction_1 : decode cX7_isSuction 1 = .ok (.iconst 1, 1) := by decide +kernel
theorem dX7_isSuction_2 : decode cX7_isSuction 2 = .ok (.if_icmp .lt 13, 3) := by decide +kernel
theorem dX7_isSuction_5 : decode cX7_isSuction 5 = .ok (.iload_n 0, 1) := by decide +kernel
theorem dX7_isSuction_6 : decode cX7_isSuction 6 = .ok (.bipush 20, 2) := by decide +kernel
theorem dX7_isSuction_8 : decode cX7_isSuction 8 = .ok (.if_icmp .gt 7, 3) := by decide +kernel
theorem dX7_isSuction_11 : decode cX7_isSuction 11 = .ok (.iconst 1, 1) := by decide +kernel
theorem dX7_isSuction_12 : decode cX7_isSuction 12 = .ok (.goto 4, 3) := by decide +kernel
theorem dX7_isSuction_15 : decode cX7_isSuction 15 = .ok (.iconst 0, 1) := by decide +kernel
theorem dX7_isSuction_16 : decode cX7_isSuction 16 = .ok (.ireturn, 1) := by decide +kernel
theorem dX7_isRightPage_0 : decode cX7_isRightPage 0 = .ok (.iload_n 0, 1) := by decide +kernel
theorem dX7_isRightPage_1 : decode cX7_isRightPage 1 = .ok (.iconst 2, 1) := by decide +kernel
theorem dX7_isRightPage_2 : decode cX7_isRightPage 2 = .ok (.irem, 1) := by decide +kernel
theorem dX7_isRightPage_3 : decode cX7_isRightPage 3 = .ok (.ifCond .ne 7, 3) := by decide +kernel
theorem dX7_isRightPage_6 : decode cX7_isRightPage 6 = .ok (.iconst 1, 1) := by decide +kernel
theorem dX7_isRightPage_7 : decode cX7_isRightPage 7 = .ok (.goto 4, 3) := by decide +kernel
theorem dX7_isRightPage_10 : decode cX7_isRightPage 10 = .ok (.iconst 0, 1) := by decide +kernel
theorem dX7_isRightPage_11 : decode cX7_isRightPage 11 = .ok (.ireturn, 1) := by decide +kernel
theorem dX7_asNumber_0 : decode cX7_asNumber 0 = .ok (.iload_n 0, 1) := by decide +kernel
theorem dX7_asNumber_1 : decode cX7_asNumber 1 = .ok (.ifCond .eq 7, 3) := by decide +kernel
theorem dX7_asNumber_4 : decode cX7_asNumber 4 = .ok (.iconst 1, 1) := by decide +kernel
theorem dX7_asNumber_5 : decode cX7_asNumber 5 = .ok (.goto 4, 3) := by decide +kernel
theorem dX7_asNumber_8 : decode cX7_asNumber 8 = .ok (.iconst 0, 1) := by decide +kernel
theorem dX7_asNumber_9 : decode cX7_asNumber 9 = .ok (.ireturn, 1) := by decide +kernel
end
section
theorem dX8_init_0 : decode cX8_init 0 = .ok (.aload_n 0, 1) := by decide +kernel
theorem dX8_init_1 : decode cX8_init 1 = .ok (.invokespecial 1, 3) := by decide +kernel
theorem dX8_init_4 : decode cX8_init 4 = .ok (.aload_n 0, 1) := by decide +kernel
theorem dX8_init_5 : decode cX8_init 5 = .ok (.sipush 532, 3) := by decide +kernel
theorem dX8_init_8 : decode cX8_init 8 = .ok (.newarray .int, 2) := by decide +kernel
theorem dX8_init_10 : decode cX8_init 10 = .ok (.putfield 7, 3) := by decide +kernel
theorem dX8_init_13 : decode cX8_init 13 = .ok (.aload_n 0, 1) := by decide +kernel
theorem dX8_init_14 : decode cX8_init 14 = .ok (.sipush 532, 3) := by decide +kernel
theorem dX8_init_17 : decode cX8_init 17 = .ok (.newarray .int, 2) := by decide +kernel
theorem dX8_init_19 : decode cX8_init 19 = .ok (.putfield 13, 3) := by decide +kernel
theorem dX8_init_22 : decode cX8_init 22 = .ok (.aload_n 0, 1) := by decide +kernel
theorem dX8_init_23 : decode cX8_init 23 = .ok (.sipush 2128, 3) := by decide +kernel
theorem dX8_init_26 : decode cX8_init 26 = .ok (.newarray .int, 2) := by decide +kernel
theorem dX8_init_28 : decode cX8_init 28 = .ok (.putfield 16, 3) := by decide +kernel
theorem dX8_init_31 : decode cX8_init 31 = .ok (.aload_n 0, 1) := by decide +kernel
theorem dX8_init_32 : decode cX8_init 32 = .ok (.sipush 532, 3) := by decide +kernel
theorem dX8_init_35 : decode cX8_init 35 = .ok (.newarray .int, 2) := by decide +kernel
theorem dX8_init_37 : decode cX8_init 37 = .ok (.putfield 19, 3) := by decide +kernel
theorem dX8_init_40 : decode cX8_init 40 = .ok (.aload_n 0, 1) := by decide +kernel
theorem dX8_init_41 : decode cX8_init 41 = .ok (.bipush 60, 2) := by decide +kernel
theorem dX8_init_43 : decode cX8_init 43 = .ok (.newarray .char, 2) := by decide +kernel
theorem dX8_init_45 : decode cX8_init 45 = .ok (.putfield 22, 3) := by decide +kernel
theorem dX8_init_48 : decode cX8_init 48 = .ok (.aload_n 0, 1) := by decide +kernel
theorem dX8_init_49 : decode cX8_init 49 = .ok (.bipush 80, 2) := by decide +kernel
theorem dX8_init_51 : decode cX8_init 51 = .ok (.newarray .int, 2) := by decide +kernel
theorem dX8_init_53 : decode cX8_init 53 = .ok (.putfield 26, 3) := by decide +kernel
theorem dX8_init_56 : decode cX8_init 56 = .ok (.aload_n 0, 1) := by decide +kernel
theorem dX8_init_57 : decode cX8_init 57 = .ok (.bipush 60, 2) := by decide +kernel
theorem dX8_init_59 : decode cX8_init 59 = .ok (.newarray .int, 2) := by decide +kernel
theorem dX8_init_61 : decode cX8_init 61 = .ok (.putfield 29, 3) := by decide +kernel
theorem dX8_init_64 : decode cX8_init 64 = .ok (.aload_n 0, 1) := by decide +kernel
theorem dX8_init_65 : decode cX8_init 65 = .ok (.bipush 93, 2) := by decide +kernel
theorem dX8_init_67 : decode cX8_init 67 = .ok (.newarray .int, 2) := by decide +kernel
theorem dX8_init_69 : decode cX8_init 69 = .ok (.putfield 32, 3) := by decide +kernel
theorem dX8_init_72 : decode cX8_init 72 = .ok (.aload_n 0, 1) := by decide +kernel
theorem dX8_init_73 : decode cX8_init 73 = .ok (.getfield 7, 3) := by decide +kernel
theorem dX8_init_76 : decode cX8_init 76 = .ok (.bipush 8, 2) := by decide +kernel
theorem dX8_init_78 : decode cX8_init 78 = .ok (.bipush 6, 2) := by decide +kernel
theorem dX8_init_80 : decode cX8_init 80 = .ok (.iastore, 1) := by decide +kernel
theorem dX8_init_81 : decode cX8_init 81 = .ok (.aload_n 0, 1) := by decide +kernel
theorem dX8_init_82 : decode cX8_init 82 = .ok (.getfield 7, 3) := by decide +kernel
theorem dX8_init_85 : decode cX8_init 85 = .ok (.bipush 9, 2) := by decide +kernel
theorem dX8_init_87 : decode cX8_init 87 = .ok (.iconst 2, 1) := by decide +kernel
theorem dX8_init_88 : decode cX8_init 88 = .ok (.iastore, 1) := by decide +kernel
theorem dX8_init_89 : decode cX8_init 89 = .ok (.aload_n 0, 1) := by decide +kernel
theorem dX8_init_90 : decode cX8_init 90 = .ok (.getfield 7, 3) := by decide +kernel
theorem dX8_init_93 : decode cX8_init 93 = .ok (.bipush 11, 2) := by decide +kernel
theorem dX8_init_95 : decode cX8_init 95 = .ok (.iconst 1, 1) := by decide +kernel
theorem dX8_init_96 : decode cX8_init 96 = .ok (.iastore, 1) := by decide +kernel
theorem dX8_init_97 : decode cX8_init 97 = .ok (.return_, 1) := by decide +kernel
theorem dX8_in_0 : decode cX8_in 0 = .ok (.iload_n 0, 1) := by decide +kernel
theorem dX8_in_1 : decode cX8_in 1 = .ok (.iload_n 1, 1) := by decide +kernel
theorem dX8_in_2 : decode cX8_in 2 = .ok (.if_icmp .lt 12, 3) := by decide +kernel
theorem dX8_in_5 : decode cX8_in 5 = .ok (.iload_n 0, 1) := by decide +kernel
theorem dX8_in_6 : decode cX8_in 6 = .ok (.iload_n 2, 1) := by decide +kernel
theorem dX8_in_7 : decode cX8_in 7 = .ok (.if_icmp .gt 7, 3) := by decide +kernel
theorem dX8_in_10 : decode cX8_in 10 = .ok (.iconst 1, 1) := by decide +kernel
theorem dX8_in_11 : decode cX8_in 11 = .ok (.goto 4, 3) := by decide +kernel
theorem dX8_in_14 : decode cX8_in 14 = .ok (.iconst 0, 1) := by decide +kernel
theorem dX8_in_15 : decode cX8_in 15 = .ok (.ireturn, 1) := by decide +kernel
theorem dX8_lays_0 : decode cX8_lays 0 = .ok (.iconst 0, 1) := by decide +kernel
theorem dX8_lays_1 : decode cX8_lays 1 = .ok (.istore 4, 2) := by decide +kernel
theorem dX8_lays_3 : decode cX8_lays 3 = .ok (.iload 4, 2) := by decide +kernel
theorem dX8_lays_5 : decode cX8_lays 5 = .ok (.sipush 532, 3) := by decide +kernel
theorem dX8_lays_8 : decode cX8_lays 8 = .ok (.if_icmp .ge 21, 3) := by decide +kernel
theorem dX8_lays_11 : decode cX8_lays 11 = .ok (.aload_n 2, 1) := by decide +kernel
theorem dX8_lays_12 : decode cX8_lays 12 = .ok (.iload_n 3, 1) := by decide +kernel
theorem dX8_lays_13 : decode cX8_lays 13 = .ok (.iload 4, 2) := by decide +kernel
theorem dX8_lays_15 : decode cX8_lays 15 = .ok (.iadd, 1) := by decide +kernel
theorem dX8_lays_16 : decode cX8_lays 16 = .ok (.aload_n 0, 1) := by decide +kernel
theorem dX8_lays_17 : decode cX8_lays 17 = .ok (.iload_n 1, 1) := by decide +kernel
theorem dX8_lays_18 : decode cX8_lays 18 = .ok (.iload 4, 2) := by decide +kernel
theorem dX8_lays_20 : decode cX8_lays 20 = .ok (.iadd, 1) := by decide +kernel
theorem dX8_lays_21 : decode cX8_lays 21 = .ok (.iaload, 1) := by decide +kernel
theorem dX8_lays_22 : decode cX8_lays 22 = .ok (.iastore, 1) := by decide +kernel
theorem dX8_lays_23 : decode cX8_lays 23 = .ok (.iinc 4 1, 3) := by decide +kernel
theorem dX8_lays_26 : decode cX8_lays 26 = .ok (.goto (-23), 3) := by decide +kernel
theorem dX8_lays_29 : decode cX8_lays 29 = .ok (.return_, 1) := by decide +kernel
set_option maxRecDepth 20000 in
theorem ggX8_records_X8_lays : GoodIn wsX8_records wsX8_lays := goodIn_r _ [6] (by decide +kernel) (by decide +kernel)
set_option maxRecDepth 20000 in
theorem gX8_records_X8_lays : GoodIn wsX8_records (va_wsS RX8 39 yX8_lays wsX8_lays) := goodIn_app (goodIn_of _ (by decide +kernel)) ggX8_records_X8_lays
theorem dX8_records_0 : decode cX8_records 0 = .ok (.aload_n 0, 1) := by decide +kernel
theorem dX8_records_1 : decode cX8_records 1 = .ok (.getfield 35, 3) := by decide +kernel
theorem dX8_records_4 : decode cX8_records 4 = .ok (.iconst 4, 1) := by decide +kernel
theorem dX8_records_5 : decode cX8_records 5 = .ok (.if_icmp .ne 44, 3) := by decide +kernel
theorem dX8_records_8 : decode cX8_records 8 = .ok (.iconst 0, 1) := by decide +kernel
theorem dX8_records_9 : decode cX8_records 9 = .ok (.istore_n 2, 1) := by decide +kernel
theorem dX8_records_10 : decode cX8_records 10 = .ok (.iload_n 2, 1) := by decide +kernel
theorem dX8_records_11 : decode cX8_records 11 = .ok (.sipush 1596, 3) := by decide +kernel
theorem dX8_records_14 : decode cX8_records 14 = .ok (.if_icmp .ge 25, 3) := by decide +kernel
theorem dX8_records_17 : decode cX8_records 17 = .ok (.aload_n 0, 1) := by decide +kernel
theorem dX8_records_18 : decode cX8_records 18 = .ok (.getfield 16, 3) := by decide +kernel
theorem dX8_records_21 : decode cX8_records 21 = .ok (.iload_n 2, 1) := by decide +kernel
theorem dX8_records_22 : decode cX8_records 22 = .ok (.aload_n 0, 1) := by decide +kernel
theorem dX8_records_23 : decode cX8_records 23 = .ok (.getfield 16, 3) := by decide +kernel
theorem dX8_records_26 : decode cX8_records 26 = .ok (.iload_n 2, 1) := by decide +kernel
theorem dX8_records_27 : decode cX8_records 27 = .ok (.sipush 532, 3) := by decide +kernel
theorem dX8_records_30 : decode cX8_records 30 = .ok (.iadd, 1) := by decide +kernel
theorem dX8_records_31 : decode cX8_records 31 = .ok (.iaload, 1) := by decide +kernel
theorem dX8_records_32 : decode cX8_records 32 = .ok (.iastore, 1) := by decide +kernel
theorem dX8_records_33 : decode cX8_records 33 = .ok (.iinc 2 1, 3) := by decide +kernel
theorem dX8_records_36 : decode cX8_records 36 = .ok (.goto (-26), 3) := by decide +kernel
theorem dX8_records_39 : decode cX8_records 39 = .ok (.aload_n 0, 1) := by decide +kernel
theorem dX8_records_40 : decode cX8_records 40 = .ok (.dup, 1) := by decide +kernel
theorem dX8_records_41 : decode cX8_records 41 = .ok (.getfield 35, 3) := by decide +kernel
theorem dX8_records_44 : decode cX8_records 44 = .ok (.iconst 1, 1) := by decide +kernel
theorem dX8_records_45 : decode cX8_records 45 = .ok (.isub, 1) := by decide +kernel
theorem dX8_records_46 : decode cX8_records 46 = .ok (.putfield 35, 3) := by decide +kernel
theorem dX8_records_49 : decode cX8_records 49 = .ok (.aload_n 1, 1) := by decide +kernel
theorem dX8_records_50 : decode cX8_records 50 = .ok (.iconst 0, 1) := by decide +kernel
theorem dX8_records_51 : decode cX8_records 51 = .ok (.aload_n 0, 1) := by decide +kernel
theorem dX8_records_52 : decode cX8_records 52 = .ok (.getfield 16, 3) := by decide +kernel
theorem dX8_records_55 : decode cX8_records 55 = .ok (.sipush 532, 3) := by decide +kernel
theorem dX8_records_58 : decode cX8_records 58 = .ok (.aload_n 0, 1) := by decide +kernel
theorem dX8_records_59 : decode cX8_records 59 = .ok (.getfield 35, 3) := by decide +kernel
theorem dX8_records_62 : decode cX8_records 62 = .ok (.imul, 1) := by decide +kernel
theorem dX8_records_63 : decode cX8_records 63 = .ok (.invokestatic 39, 3) := by decide +kernel
theorem dX8_records_66 : decode cX8_records 66 = .ok (.aload_n 0, 1) := by decide +kernel
theorem dX8_records_67 : decode cX8_records 67 = .ok (.dup, 1) := by decide +kernel
theorem dX8_records_68 : decode cX8_records 68 = .ok (.getfield 35, 3) := by decide +kernel
theorem dX8_records_71 : decode cX8_records 71 = .ok (.iconst 1, 1) := by decide +kernel
theorem dX8_records_72 : decode cX8_records 72 = .ok (.iadd, 1) := by decide +kernel
theorem dX8_records_73 : decode cX8_records 73 = .ok (.putfield 35, 3) := by decide +kernel
theorem dX8_records_76 : decode cX8_records 76 = .ok (.return_, 1) := by decide +kernel
theorem dX8_clears_0 : decode cX8_clears 0 = .ok (.iconst 0, 1) := by decide +kernel
theorem dX8_clears_1 : decode cX8_clears 1 = .ok (.istore_n 1, 1) := by decide +kernel
theorem dX8_clears_2 : decode cX8_clears 2 = .ok (.iload_n 1, 1) := by decide +kernel
theorem dX8_clears_3 : decode cX8_clears 3 = .ok (.bipush 8, 2) := by decide +kernel
theorem dX8_clears_5 : decode cX8_clears 5 = .ok (.if_icmp .ge 16, 3) := by decide +kernel
theorem dX8_clears_8 : decode cX8_clears 8 = .ok (.aload_n 0, 1) := by decide +kernel
theorem dX8_clears_9 : decode cX8_clears 9 = .ok (.getfield 7, 3) := by decide +kernel
theorem dX8_clears_12 : decode cX8_clears 12 = .ok (.iload_n 1, 1) := by decide +kernel
theorem dX8_clears_13 : decode cX8_clears 13 = .ok (.iconst 0, 1) := by decide +kernel
theorem dX8_clears_14 : decode cX8_clears 14 = .ok (.iastore, 1) := by decide +kernel
theorem dX8_clears_15 : decode cX8_clears 15 = .ok (.iinc 1 1, 3) := by decide +kernel
theorem dX8_clears_18 : decode cX8_clears 18 = .ok (.goto (-16), 3) := by decide +kernel
theorem dX8_clears_21 : decode cX8_clears 21 = .ok (.bipush 12, 2) := by decide +kernel
theorem dX8_clears_23 : decode cX8_clears 23 = .ok (.istore_n 1, 1) := by decide +kernel
theorem dX8_clears_24 : decode cX8_clears 24 = .ok (.iload_n 1, 1) := by decide +kernel
theorem dX8_clears_25 : decode cX8_clears 25 = .ok (.sipush 532, 3) := by decide +kernel
theorem dX8_clears_28 : decode cX8_clears 28 = .ok (.if_icmp .ge 16, 3) := by decide +kernel
theorem dX8_clears_31 : decode cX8_clears 31 = .ok (.aload_n 0, 1) := by decide +kernel
theorem dX8_clears_32 : decode cX8_clears 32 = .ok (.getfield 7, 3) := by decide +kernel
theorem dX8_clears_35 : decode cX8_clears 35 = .ok (.iload_n 1, 1) := by decide +kernel
theorem dX8_clears_36 : decode cX8_clears 36 = .ok (.iconst 0, 1) := by decide +kernel
theorem dX8_clears_37 : decode cX8_clears 37 = .ok (.iastore, 1) := by decide +kernel
theorem dX8_clears_38 : decode cX8_clears 38 = .ok (.iinc 1 1, 3) := by decide +kernel
theorem dX8_clears_41 : decode cX8_clears 41 = .ok (.goto (-17), 3) := by decide +kernel
theorem dX8_clears_44 : decode cX8_clears 44 = .ok (.return_, 1) := by decide +kernel
theorem dX8_adds_0 : decode cX8_adds 0 = .ok (.aload_n 0, 1) := by decide +kernel
theorem dX8_adds_1 : decode cX8_adds 1 = .ok (.getfield 7, 3) := by decide +kernel
theorem dX8_adds_4 : decode cX8_adds 4 = .ok (.iconst 0, 1) := by decide +kernel
theorem dX8_adds_5 : decode cX8_adds 5 = .ok (.iaload, 1) := by decide +kernel
theorem dX8_adds_6 : decode cX8_adds 6 = .ok (.istore 4, 2) := by decide +kernel
theorem dX8_adds_8 : decode cX8_adds 8 = .ok (.aload_n 0, 1) := by decide +kernel
theorem dX8_adds_9 : decode cX8_adds 9 = .ok (.getfield 7, 3) := by decide +kernel
theorem dX8_adds_12 : decode cX8_adds 12 = .ok (.bipush 12, 2) := by decide +kernel
theorem dX8_adds_14 : decode cX8_adds 14 = .ok (.iload 4, 2) := by decide +kernel
theorem dX8_adds_16 : decode cX8_adds 16 = .ok (.iadd, 1) := by decide +kernel
theorem dX8_adds_17 : decode cX8_adds 17 = .ok (.iload_n 1, 1) := by decide +kernel
theorem dX8_adds_18 : decode cX8_adds 18 = .ok (.iastore, 1) := by decide +kernel
theorem dX8_adds_19 : decode cX8_adds 19 = .ok (.aload_n 0, 1) := by decide +kernel
theorem dX8_adds_20 : decode cX8_adds 20 = .ok (.getfield 7, 3) := by decide +kernel
theorem dX8_adds_23 : decode cX8_adds 23 = .ok (.bipush 42, 2) := by decide +kernel
theorem dX8_adds_25 : decode cX8_adds 25 = .ok (.iload 4, 2) := by decide +kernel
theorem dX8_adds_27 : decode cX8_adds 27 = .ok (.iadd, 1) := by decide +kernel
theorem dX8_adds_28 : decode cX8_adds 28 = .ok (.iload_n 2, 1) := by decide +kernel
theorem dX8_adds_29 : decode cX8_adds 29 = .ok (.iastore, 1) := by decide +kernel
theorem dX8_adds_30 : decode cX8_adds 30 = .ok (.iconst 2, 1) := by decide +kernel
theorem dX8_adds_31 : decode cX8_adds 31 = .ok (.iload 4, 2) := by decide +kernel
theorem dX8_adds_33 : decode cX8_adds 33 = .ok (.imul, 1) := by decide +kernel
theorem dX8_adds_34 : decode cX8_adds 34 = .ok (.istore 5, 2) := by decide +kernel
theorem dX8_adds_36 : decode cX8_adds 36 = .ok (.iload 5, 2) := by decide +kernel
theorem dX8_adds_38 : decode cX8_adds 38 = .ok (.iconst 2, 1) := by decide +kernel
theorem dX8_adds_39 : decode cX8_adds 39 = .ok (.iload 4, 2) := by decide +kernel
theorem dX8_adds_41 : decode cX8_adds 41 = .ok (.imul, 1) := by decide +kernel
theorem dX8_adds_42 : decode cX8_adds 42 = .ok (.iconst 2, 1) := by decide +kernel
theorem dX8_adds_43 : decode cX8_adds 43 = .ok (.iadd, 1) := by decide +kernel
theorem dX8_adds_44 : decode cX8_adds 44 = .ok (.if_icmp .ge 34, 3) := by decide +kernel
theorem dX8_adds_47 : decode cX8_adds 47 = .ok (.aload_n 0, 1) := by decide +kernel
theorem dX8_adds_48 : decode cX8_adds 48 = .ok (.getfield 7, 3) := by decide +kernel
theorem dX8_adds_51 : decode cX8_adds 51 = .ok (.bipush 72, 2) := by decide +kernel
theorem dX8_adds_53 : decode cX8_adds 53 = .ok (.iload 5, 2) := by decide +kernel
theorem dX8_adds_55 : decode cX8_adds 55 = .ok (.iadd, 1) := by decide +kernel
theorem dX8_adds_56 : decode cX8_adds 56 = .ok (.iload_n 3, 1) := by decide +kernel
theorem dX8_adds_57 : decode cX8_adds 57 = .ok (.bipush (-5), 2) := by decide +kernel
theorem dX8_adds_59 : decode cX8_adds 59 = .ok (.if_icmp .ne 8, 3) := by decide +kernel
theorem dX8_adds_62 : decode cX8_adds 62 = .ok (.bipush (-5), 2) := by decide +kernel
theorem dX8_adds_64 : decode cX8_adds 64 = .ok (.goto 7, 3) := by decide +kernel
theorem dX8_adds_67 : decode cX8_adds 67 = .ok (.iload 5, 2) := by decide +kernel
theorem dX8_adds_69 : decode cX8_adds 69 = .ok (.iload_n 3, 1) := by decide +kernel
theorem dX8_adds_70 : decode cX8_adds 70 = .ok (.iadd, 1) := by decide +kernel
theorem dX8_adds_71 : decode cX8_adds 71 = .ok (.iastore, 1) := by decide +kernel
theorem dX8_adds_72 : decode cX8_adds 72 = .ok (.iinc 5 1, 3) := by decide +kernel
theorem dX8_adds_75 : decode cX8_adds 75 = .ok (.goto (-39), 3) := by decide +kernel
theorem dX8_adds_78 : decode cX8_adds 78 = .ok (.aload_n 0, 1) := by decide +kernel
theorem dX8_adds_79 : decode cX8_adds 79 = .ok (.getfield 7, 3) := by decide +kernel
theorem dX8_adds_82 : decode cX8_adds 82 = .ok (.iconst 0, 1) := by decide +kernel
theorem dX8_adds_83 : decode cX8_adds 83 = .ok (.dup2, 1) := by decide +kernel
theorem dX8_adds_84 : decode cX8_adds 84 = .ok (.iaload, 1) := by decide +kernel
theorem dX8_adds_85 : decode cX8_adds 85 = .ok (.iconst 1, 1) := by decide +kernel
theorem dX8_adds_86 : decode cX8_adds 86 = .ok (.iadd, 1) := by decide +kernel
theorem dX8_adds_87 : decode cX8_adds 87 = .ok (.iastore, 1) := by decide +kernel
theorem dX8_adds_88 : decode cX8_adds 88 = .ok (.return_, 1) := by decide +kernel
set_option maxRecDepth 20000 in
theorem ggX8_takeBook_X8_fault : GoodIn wsX8_takeBook wsX8_fault := goodIn_r _ [8, 9, 2, 10, 11, 12, 13, 7, 14, 3, 15, 16, 17, 18, 19, 20, 21, 22, 23, 24, 25, 26, 27, 28, 29, 30, 48, 49, 50, 51, 52, 53, 54, 55, 56, 57, 58, 59, 60] (by decide +kernel) (by decide +kernel)
set_option maxRecDepth 20000 in
theorem gX8_takeBook_X8_fault : GoodIn wsX8_takeBook (wsV RX8 43 RX8 yX8_fault wsX8_fault) := goodIn_app (goodIn_of _ (by decide +kernel)) ggX8_takeBook_X8_fault
set_option maxRecDepth 20000 in
theorem ggX8_takeBook_X8_records : GoodIn wsX8_takeBook wsX8_records := goodIn_r _ [34, 35, 36, 37, 38, 7, 39, 48, 49, 50, 51, 52, 53, 54, 55, 56, 57, 58, 59, 60] (by decide +kernel) (by decide +kernel)
set_option maxRecDepth 20000 in
theorem gX8_takeBook_X8_records : GoodIn wsX8_takeBook (wsV RX8 47 RX8 yX8_records wsX8_records) := goodIn_app (goodIn_of _ (by decide +kernel)) ggX8_takeBook_X8_records
set_option maxRecDepth 20000 in
theorem ggX8_takeBook_X8_clears : GoodIn wsX8_takeBook wsX8_clears := goodIn_r _ [43, 1, 48, 49, 50, 51, 52, 53, 54, 55, 56, 57, 58, 59, 60] (by decide +kernel) (by decide +kernel)
set_option maxRecDepth 20000 in
theorem gX8_takeBook_X8_clears : GoodIn wsX8_takeBook (wsV RX8 51 RX8 yX8_clears wsX8_clears) := goodIn_app (goodIn_of _ (by decide +kernel)) ggX8_takeBook_X8_clears
set_option maxRecDepth 20000 in
theorem ggX8_takeBook_X8_adds : GoodIn wsX8_takeBook wsX8_adds := goodIn_r _ [47, 1, 48, 49, 50, 51, 52, 53, 54, 55, 56, 57, 58, 59, 60] (by decide +kernel) (by decide +kernel)
set_option maxRecDepth 20000 in
theorem gX8_takeBook_X8_adds : GoodIn wsX8_takeBook (wsV RX8 57 RX8 yX8_adds wsX8_adds) := goodIn_app (goodIn_of _ (by decide +kernel)) ggX8_takeBook_X8_adds
theorem dX8_takeBook_0 : decode cX8_takeBook 0 = .ok (.aload_n 0, 1) := by decide +kernel
theorem dX8_takeBook_1 : decode cX8_takeBook 1 = .ok (.invokevirtual 43, 3) := by decide +kernel
theorem dX8_takeBook_4 : decode cX8_takeBook 4 = .ok (.istore_n 1, 1) := by decide +kernel
theorem dX8_takeBook_5 : decode cX8_takeBook 5 = .ok (.iload_n 1, 1) := by decide +kernel
theorem dX8_takeBook_6 : decode cX8_takeBook 6 = .ok (.bipush (-5), 2) := by decide +kernel
theorem dX8_takeBook_8 : decode cX8_takeBook 8 = .ok (.if_icmp .eq 8, 3) := by decide +kernel
theorem dX8_takeBook_11 : decode cX8_takeBook 11 = .ok (.bipush (-100), 2) := by decide +kernel
theorem dX8_takeBook_13 : decode cX8_takeBook 13 = .ok (.iload_n 1, 1) := by decide +kernel
theorem dX8_takeBook_14 : decode cX8_takeBook 14 = .ok (.isub, 1) := by decide +kernel
theorem dX8_takeBook_15 : decode cX8_takeBook 15 = .ok (.ireturn, 1) := by decide +kernel
theorem dX8_takeBook_16 : decode cX8_takeBook 16 = .ok (.aload_n 0, 1) := by decide +kernel
theorem dX8_takeBook_17 : decode cX8_takeBook 17 = .ok (.aload_n 0, 1) := by decide +kernel
theorem dX8_takeBook_18 : decode cX8_takeBook 18 = .ok (.getfield 7, 3) := by decide +kernel
theorem dX8_takeBook_21 : decode cX8_takeBook 21 = .ok (.invokevirtual 47, 3) := by decide +kernel
theorem dX8_takeBook_24 : decode cX8_takeBook 24 = .ok (.aload_n 0, 1) := by decide +kernel
theorem dX8_takeBook_25 : decode cX8_takeBook 25 = .ok (.invokevirtual 51, 3) := by decide +kernel
theorem dX8_takeBook_28 : decode cX8_takeBook 28 = .ok (.iconst 0, 1) := by decide +kernel
theorem dX8_takeBook_29 : decode cX8_takeBook 29 = .ok (.istore_n 2, 1) := by decide +kernel
theorem dX8_takeBook_30 : decode cX8_takeBook 30 = .ok (.iload_n 2, 1) := by decide +kernel
theorem dX8_takeBook_31 : decode cX8_takeBook 31 = .ok (.aload_n 0, 1) := by decide +kernel
theorem dX8_takeBook_32 : decode cX8_takeBook 32 = .ok (.getfield 54, 3) := by decide +kernel
theorem dX8_takeBook_35 : decode cX8_takeBook 35 = .ok (.if_icmp .ge 41, 3) := by decide +kernel
theorem dX8_takeBook_38 : decode cX8_takeBook 38 = .ok (.aload_n 0, 1) := by decide +kernel
theorem dX8_takeBook_39 : decode cX8_takeBook 39 = .ok (.aload_n 0, 1) := by decide +kernel
theorem dX8_takeBook_40 : decode cX8_takeBook 40 = .ok (.getfield 32, 3) := by decide +kernel
theorem dX8_takeBook_43 : decode cX8_takeBook 43 = .ok (.iconst 3, 1) := by decide +kernel
theorem dX8_takeBook_44 : decode cX8_takeBook 44 = .ok (.iload_n 2, 1) := by decide +kernel
theorem dX8_takeBook_45 : decode cX8_takeBook 45 = .ok (.imul, 1) := by decide +kernel
theorem dX8_takeBook_46 : decode cX8_takeBook 46 = .ok (.iaload, 1) := by decide +kernel
theorem dX8_takeBook_47 : decode cX8_takeBook 47 = .ok (.aload_n 0, 1) := by decide +kernel
theorem dX8_takeBook_48 : decode cX8_takeBook 48 = .ok (.getfield 32, 3) := by decide +kernel
theorem dX8_takeBook_51 : decode cX8_takeBook 51 = .ok (.iconst 3, 1) := by decide +kernel
theorem dX8_takeBook_52 : decode cX8_takeBook 52 = .ok (.iload_n 2, 1) := by decide +kernel
theorem dX8_takeBook_53 : decode cX8_takeBook 53 = .ok (.imul, 1) := by decide +kernel
theorem dX8_takeBook_54 : decode cX8_takeBook 54 = .ok (.iconst 1, 1) := by decide +kernel
theorem dX8_takeBook_55 : decode cX8_takeBook 55 = .ok (.iadd, 1) := by decide +kernel
theorem dX8_takeBook_56 : decode cX8_takeBook 56 = .ok (.iaload, 1) := by decide +kernel
theorem dX8_takeBook_57 : decode cX8_takeBook 57 = .ok (.aload_n 0, 1) := by decide +kernel
theorem dX8_takeBook_58 : decode cX8_takeBook 58 = .ok (.getfield 32, 3) := by decide +kernel
theorem dX8_takeBook_61 : decode cX8_takeBook 61 = .ok (.iconst 3, 1) := by decide +kernel
theorem dX8_takeBook_62 : decode cX8_takeBook 62 = .ok (.iload_n 2, 1) := by decide +kernel
theorem dX8_takeBook_63 : decode cX8_takeBook 63 = .ok (.imul, 1) := by decide +kernel
theorem dX8_takeBook_64 : decode cX8_takeBook 64 = .ok (.iconst 2, 1) := by decide +kernel
theorem dX8_takeBook_65 : decode cX8_takeBook 65 = .ok (.iadd, 1) := by decide +kernel
theorem dX8_takeBook_66 : decode cX8_takeBook 66 = .ok (.iaload, 1) := by decide +kernel
theorem dX8_takeBook_67 : decode cX8_takeBook 67 = .ok (.invokevirtual 57, 3) := by decide +kernel
theorem dX8_takeBook_70 : decode cX8_takeBook 70 = .ok (.iinc 2 1, 3) := by decide +kernel
theorem dX8_takeBook_73 : decode cX8_takeBook 73 = .ok (.goto (-43), 3) := by decide +kernel
theorem dX8_takeBook_76 : decode cX8_takeBook 76 = .ok (.aload_n 0, 1) := by decide +kernel
theorem dX8_takeBook_77 : decode cX8_takeBook 77 = .ok (.getfield 54, 3) := by decide +kernel
theorem dX8_takeBook_80 : decode cX8_takeBook 80 = .ok (.ireturn, 1) := by decide +kernel
set_option maxRecDepth 20000 in
theorem ggX8_layBook_X8_in : GoodIn wsX8_layBook wsX8_in := goodIn_r _ [5] (by decide +kernel) (by decide +kernel)
set_option maxRecDepth 20000 in
theorem gX8_layBook_X8_in : GoodIn wsX8_layBook (va_wsS RX8 61 yX8_in wsX8_in) := goodIn_app (goodIn_of _ (by decide +kernel)) ggX8_layBook_X8_in
set_option maxRecDepth 20000 in
theorem ggX8_layBook_X8_records : GoodIn wsX8_layBook wsX8_records := goodIn_r _ [9, 10, 11, 12, 13, 4, 14, 23, 24, 25, 26, 27, 28, 29, 30, 31, 32, 33, 34, 35] (by decide +kernel) (by decide +kernel)
set_option maxRecDepth 20000 in
theorem gX8_layBook_X8_records : GoodIn wsX8_layBook (wsV RX8 47 RX8 yX8_records wsX8_records) := goodIn_app (goodIn_of _ (by decide +kernel)) ggX8_layBook_X8_records
set_option maxRecDepth 20000 in
theorem ggX8_layBook_X8_clears : GoodIn wsX8_layBook wsX8_clears := goodIn_r _ [18, 1, 23, 24, 25, 26, 27, 28, 29, 30, 31, 32, 33, 34, 35] (by decide +kernel) (by decide +kernel)
set_option maxRecDepth 20000 in
theorem gX8_layBook_X8_clears : GoodIn wsX8_layBook (wsV RX8 51 RX8 yX8_clears wsX8_clears) := goodIn_app (goodIn_of _ (by decide +kernel)) ggX8_layBook_X8_clears
set_option maxRecDepth 20000 in
theorem ggX8_layBook_X8_adds : GoodIn wsX8_layBook wsX8_adds := goodIn_r _ [22, 1, 23, 24, 25, 26, 27, 28, 29, 30, 31, 32, 33, 34, 35] (by decide +kernel) (by decide +kernel)
set_option maxRecDepth 20000 in
theorem gX8_layBook_X8_adds : GoodIn wsX8_layBook (wsV RX8 57 RX8 yX8_adds wsX8_adds) := goodIn_app (goodIn_of _ (by decide +kernel)) ggX8_layBook_X8_adds
theorem dX8_layBook_0 : decode cX8_layBook 0 = .ok (.iload_n 1, 1) := by decide +kernel
theorem dX8_layBook_1 : decode cX8_layBook 1 = .ok (.iconst 1, 1) := by decide +kernel
theorem dX8_layBook_2 : decode cX8_layBook 2 = .ok (.bipush 30, 2) := by decide +kernel
theorem dX8_layBook_4 : decode cX8_layBook 4 = .ok (.invokestatic 61, 3) := by decide +kernel
theorem dX8_layBook_7 : decode cX8_layBook 7 = .ok (.ifCond .eq 14, 3) := by decide +kernel
theorem dX8_layBook_10 : decode cX8_layBook 10 = .ok (.iload_n 2, 1) := by decide +kernel
theorem dX8_layBook_11 : decode cX8_layBook 11 = .ok (.iconst 0, 1) := by decide +kernel
theorem dX8_layBook_12 : decode cX8_layBook 12 = .ok (.sipush 9999, 3) := by decide +kernel
theorem dX8_layBook_15 : decode cX8_layBook 15 = .ok (.invokestatic 61, 3) := by decide +kernel
theorem dX8_layBook_18 : decode cX8_layBook 18 = .ok (.ifCond .ne 6, 3) := by decide +kernel
theorem dX8_layBook_21 : decode cX8_layBook 21 = .ok (.bipush (-2), 2) := by decide +kernel
theorem dX8_layBook_23 : decode cX8_layBook 23 = .ok (.ireturn, 1) := by decide +kernel
theorem dX8_layBook_24 : decode cX8_layBook 24 = .ok (.aload_n 0, 1) := by decide +kernel
theorem dX8_layBook_25 : decode cX8_layBook 25 = .ok (.aload_n 0, 1) := by decide +kernel
theorem dX8_layBook_26 : decode cX8_layBook 26 = .ok (.getfield 7, 3) := by decide +kernel
theorem dX8_layBook_29 : decode cX8_layBook 29 = .ok (.invokevirtual 47, 3) := by decide +kernel
theorem dX8_layBook_32 : decode cX8_layBook 32 = .ok (.aload_n 0, 1) := by decide +kernel
theorem dX8_layBook_33 : decode cX8_layBook 33 = .ok (.invokevirtual 51, 3) := by decide +kernel
theorem dX8_layBook_36 : decode cX8_layBook 36 = .ok (.iload_n 2, 1) := by decide +kernel
theorem dX8_layBook_37 : decode cX8_layBook 37 = .ok (.istore_n 3, 1) := by decide +kernel
theorem dX8_layBook_38 : decode cX8_layBook 38 = .ok (.iconst 0, 1) := by decide +kernel
theorem dX8_layBook_39 : decode cX8_layBook 39 = .ok (.istore 4, 2) := by decide +kernel
theorem dX8_layBook_41 : decode cX8_layBook 41 = .ok (.iconst 0, 1) := by decide +kernel
theorem dX8_layBook_42 : decode cX8_layBook 42 = .ok (.istore 5, 2) := by decide +kernel
theorem dX8_layBook_44 : decode cX8_layBook 44 = .ok (.iload 5, 2) := by decide +kernel
theorem dX8_layBook_46 : decode cX8_layBook 46 = .ok (.iload_n 1, 1) := by decide +kernel
theorem dX8_layBook_47 : decode cX8_layBook 47 = .ok (.if_icmp .ge 80, 3) := by decide +kernel
theorem dX8_layBook_50 : decode cX8_layBook 50 = .ok (.sipush 421, 3) := by decide +kernel
theorem dX8_layBook_53 : decode cX8_layBook 53 = .ok (.iload_n 3, 1) := by decide +kernel
theorem dX8_layBook_54 : decode cX8_layBook 54 = .ok (.imul, 1) := by decide +kernel
theorem dX8_layBook_55 : decode cX8_layBook 55 = .ok (.sipush 1663, 3) := by decide +kernel
theorem dX8_layBook_58 : decode cX8_layBook 58 = .ok (.iadd, 1) := by decide +kernel
theorem dX8_layBook_59 : decode cX8_layBook 59 = .ok (.sipush 10000, 3) := by decide +kernel
theorem dX8_layBook_62 : decode cX8_layBook 62 = .ok (.irem, 1) := by decide +kernel
theorem dX8_layBook_63 : decode cX8_layBook 63 = .ok (.istore_n 3, 1) := by decide +kernel
theorem dX8_layBook_64 : decode cX8_layBook 64 = .ok (.iload_n 3, 1) := by decide +kernel
theorem dX8_layBook_65 : decode cX8_layBook 65 = .ok (.bipush 10, 2) := by decide +kernel
theorem dX8_layBook_67 : decode cX8_layBook 67 = .ok (.idiv, 1) := by decide +kernel
theorem dX8_layBook_68 : decode cX8_layBook 68 = .ok (.bipush 10, 2) := by decide +kernel
theorem dX8_layBook_70 : decode cX8_layBook 70 = .ok (.irem, 1) := by decide +kernel
theorem dX8_layBook_71 : decode cX8_layBook 71 = .ok (.istore 6, 2) := by decide +kernel
theorem dX8_layBook_73 : decode cX8_layBook 73 = .ok (.aload_n 0, 1) := by decide +kernel
theorem dX8_layBook_74 : decode cX8_layBook 74 = .ok (.iconst 1, 1) := by decide +kernel
theorem dX8_layBook_75 : decode cX8_layBook 75 = .ok (.iload_n 3, 1) := by decide +kernel
theorem dX8_layBook_76 : decode cX8_layBook 76 = .ok (.iconst 5, 1) := by decide +kernel
theorem dX8_layBook_77 : decode cX8_layBook 77 = .ok (.irem, 1) := by decide +kernel
theorem dX8_layBook_78 : decode cX8_layBook 78 = .ok (.iadd, 1) := by decide +kernel
theorem dX8_layBook_79 : decode cX8_layBook 79 = .ok (.iload 6, 2) := by decide +kernel
theorem dX8_layBook_81 : decode cX8_layBook 81 = .ok (.bipush 6, 2) := by decide +kernel
theorem dX8_layBook_83 : decode cX8_layBook 83 = .ok (.if_icmp .ge 7, 3) := by decide +kernel
theorem dX8_layBook_86 : decode cX8_layBook 86 = .ok (.iconst 0, 1) := by decide +kernel
theorem dX8_layBook_87 : decode cX8_layBook 87 = .ok (.goto 5, 3) := by decide +kernel
theorem dX8_layBook_90 : decode cX8_layBook 90 = .ok (.iload 6, 2) := by decide +kernel
theorem dX8_layBook_92 : decode cX8_layBook 92 = .ok (.iload_n 3, 1) := by decide +kernel
theorem dX8_layBook_93 : decode cX8_layBook 93 = .ok (.bipush 100, 2) := by decide +kernel
theorem dX8_layBook_95 : decode cX8_layBook 95 = .ok (.idiv, 1) := by decide +kernel
theorem dX8_layBook_96 : decode cX8_layBook 96 = .ok (.bipush 8, 2) := by decide +kernel
theorem dX8_layBook_98 : decode cX8_layBook 98 = .ok (.irem, 1) := by decide +kernel
theorem dX8_layBook_99 : decode cX8_layBook 99 = .ok (.ifCond .ne 8, 3) := by decide +kernel
theorem dX8_layBook_102 : decode cX8_layBook 102 = .ok (.bipush (-5), 2) := by decide +kernel
theorem dX8_layBook_104 : decode cX8_layBook 104 = .ok (.goto 4, 3) := by decide +kernel
theorem dX8_layBook_107 : decode cX8_layBook 107 = .ok (.iconst 1, 1) := by decide +kernel
theorem dX8_layBook_108 : decode cX8_layBook 108 = .ok (.invokevirtual 57, 3) := by decide +kernel
theorem dX8_layBook_111 : decode cX8_layBook 111 = .ok (.iload 4, 2) := by decide +kernel
theorem dX8_layBook_113 : decode cX8_layBook 113 = .ok (.iconst 1, 1) := by decide +kernel
theorem dX8_layBook_114 : decode cX8_layBook 114 = .ok (.iload_n 3, 1) := by decide +kernel
theorem dX8_layBook_115 : decode cX8_layBook 115 = .ok (.iconst 5, 1) := by decide +kernel
theorem dX8_layBook_116 : decode cX8_layBook 116 = .ok (.irem, 1) := by decide +kernel
theorem dX8_layBook_117 : decode cX8_layBook 117 = .ok (.iadd, 1) := by decide +kernel
theorem dX8_layBook_118 : decode cX8_layBook 118 = .ok (.iadd, 1) := by decide +kernel
theorem dX8_layBook_119 : decode cX8_layBook 119 = .ok (.istore 4, 2) := by decide +kernel
theorem dX8_layBook_121 : decode cX8_layBook 121 = .ok (.iinc 5 1, 3) := by decide +kernel
theorem dX8_layBook_124 : decode cX8_layBook 124 = .ok (.goto (-80), 3) := by decide +kernel
theorem dX8_layBook_127 : decode cX8_layBook 127 = .ok (.iload 4, 2) := by decide +kernel
theorem dX8_layBook_129 : decode cX8_layBook 129 = .ok (.ireturn, 1) := by decide +kernel
set_option maxRecDepth 20000 in
theorem ggX8_isPage_X8_in : GoodIn wsX8_isPage wsX8_in := goodIn_r _ [5] (by decide +kernel) (by decide +kernel)
set_option maxRecDepth 20000 in
theorem gX8_isPage_X8_in : GoodIn wsX8_isPage (va_wsS RX8 61 yX8_in wsX8_in) := goodIn_app (goodIn_of _ (by decide +kernel)) ggX8_isPage_X8_in
theorem dX8_isPage_0 : decode cX8_isPage 0 = .ok (.iload_n 1, 1) := by decide +kernel
theorem dX8_isPage_1 : decode cX8_isPage 1 = .ok (.iconst 0, 1) := by decide +kernel
theorem dX8_isPage_2 : decode cX8_isPage 2 = .ok (.iconst 2, 1) := by decide +kernel
theorem dX8_isPage_3 : decode cX8_isPage 3 = .ok (.aload_n 0, 1) := by decide +kernel
theorem dX8_isPage_4 : decode cX8_isPage 4 = .ok (.getfield 7, 3) := by decide +kernel
theorem dX8_isPage_7 : decode cX8_isPage 7 = .ok (.iconst 0, 1) := by decide +kernel
theorem dX8_isPage_8 : decode cX8_isPage 8 = .ok (.iaload, 1) := by decide +kernel
theorem dX8_isPage_9 : decode cX8_isPage 9 = .ok (.imul, 1) := by decide +kernel
theorem dX8_isPage_10 : decode cX8_isPage 10 = .ok (.iconst 1, 1) := by decide +kernel
theorem dX8_isPage_11 : decode cX8_isPage 11 = .ok (.isub, 1) := by decide +kernel
theorem dX8_isPage_12 : decode cX8_isPage 12 = .ok (.invokestatic 61, 3) := by decide +kernel
theorem dX8_isPage_15 : decode cX8_isPage 15 = .ok (.ireturn, 1) := by decide +kernel
set_option maxRecDepth 20000 in
theorem ggX8_print_X8_isPage : GoodIn wsX8_print wsX8_isPage := goodIn_r _ [6, 1, 7, 8, 5, 9, 19, 20, 21, 22, 23, 24, 25, 26, 27, 28, 29, 30, 31] (by decide +kernel) (by decide +kernel)
set_option maxRecDepth 20000 in
theorem gX8_print_X8_isPage : GoodIn wsX8_print (wsV RX8 65 RX8 yX8_isPage wsX8_isPage) := goodIn_app (goodIn_of _ (by decide +kernel)) ggX8_print_X8_isPage
set_option maxRecDepth 20000 in
theorem ggX8_print_X8_in : GoodIn wsX8_print wsX8_in := goodIn_r _ [9] (by decide +kernel) (by decide +kernel)
set_option maxRecDepth 20000 in
theorem gX8_print_X8_in : GoodIn wsX8_print (va_wsS RX8 61 yX8_in wsX8_in) := goodIn_app (goodIn_of _ (by decide +kernel)) ggX8_print_X8_in
set_option maxRecDepth 20000 in
theorem ggX8_print_X8_records : GoodIn wsX8_print wsX8_records := goodIn_r _ [13, 14, 15, 16, 17, 5, 18, 19, 20, 21, 22, 23, 24, 25, 26, 27, 28, 29, 30, 31] (by decide +kernel) (by decide +kernel)
set_option maxRecDepth 20000 in
theorem gX8_print_X8_records : GoodIn wsX8_print (wsV RX8 47 RX8 yX8_records wsX8_records) := goodIn_app (goodIn_of _ (by decide +kernel)) ggX8_print_X8_records
theorem dX8_print_0 : decode cX8_print 0 = .ok (.aload_n 0, 1) := by decide +kernel
theorem dX8_print_1 : decode cX8_print 1 = .ok (.iload_n 1, 1) := by decide +kernel
theorem dX8_print_2 : decode cX8_print 2 = .ok (.invokevirtual 65, 3) := by decide +kernel
theorem dX8_print_5 : decode cX8_print 5 = .ok (.ifCond .ne 5, 3) := by decide +kernel
theorem dX8_print_8 : decode cX8_print 8 = .ok (.iconst (-1), 1) := by decide +kernel
theorem dX8_print_9 : decode cX8_print 9 = .ok (.ireturn, 1) := by decide +kernel
theorem dX8_print_10 : decode cX8_print 10 = .ok (.iload_n 2, 1) := by decide +kernel
theorem dX8_print_11 : decode cX8_print 11 = .ok (.bipush (-5), 2) := by decide +kernel
theorem dX8_print_13 : decode cX8_print 13 = .ok (.if_icmp .eq 17, 3) := by decide +kernel
theorem dX8_print_16 : decode cX8_print 16 = .ok (.iload_n 2, 1) := by decide +kernel
theorem dX8_print_17 : decode cX8_print 17 = .ok (.iconst 0, 1) := by decide +kernel
theorem dX8_print_18 : decode cX8_print 18 = .ok (.sipush 199, 3) := by decide +kernel
theorem dX8_print_21 : decode cX8_print 21 = .ok (.invokestatic 61, 3) := by decide +kernel
theorem dX8_print_24 : decode cX8_print 24 = .ok (.ifCond .ne 6, 3) := by decide +kernel
theorem dX8_print_27 : decode cX8_print 27 = .ok (.bipush (-2), 2) := by decide +kernel
theorem dX8_print_29 : decode cX8_print 29 = .ok (.ireturn, 1) := by decide +kernel
theorem dX8_print_30 : decode cX8_print 30 = .ok (.aload_n 0, 1) := by decide +kernel
theorem dX8_print_31 : decode cX8_print 31 = .ok (.getfield 7, 3) := by decide +kernel
theorem dX8_print_34 : decode cX8_print 34 = .ok (.bipush 72, 2) := by decide +kernel
theorem dX8_print_36 : decode cX8_print 36 = .ok (.iload_n 1, 1) := by decide +kernel
theorem dX8_print_37 : decode cX8_print 37 = .ok (.iadd, 1) := by decide +kernel
theorem dX8_print_38 : decode cX8_print 38 = .ok (.iaload, 1) := by decide +kernel
theorem dX8_print_39 : decode cX8_print 39 = .ok (.istore_n 3, 1) := by decide +kernel
theorem dX8_print_40 : decode cX8_print 40 = .ok (.iload_n 3, 1) := by decide +kernel
theorem dX8_print_41 : decode cX8_print 41 = .ok (.iload_n 2, 1) := by decide +kernel
theorem dX8_print_42 : decode cX8_print 42 = .ok (.if_icmp .ne 6, 3) := by decide +kernel
theorem dX8_print_45 : decode cX8_print 45 = .ok (.bipush (-5), 2) := by decide +kernel
theorem dX8_print_47 : decode cX8_print 47 = .ok (.ireturn, 1) := by decide +kernel
theorem dX8_print_48 : decode cX8_print 48 = .ok (.aload_n 0, 1) := by decide +kernel
theorem dX8_print_49 : decode cX8_print 49 = .ok (.aload_n 0, 1) := by decide +kernel
theorem dX8_print_50 : decode cX8_print 50 = .ok (.getfield 7, 3) := by decide +kernel
theorem dX8_print_53 : decode cX8_print 53 = .ok (.invokevirtual 47, 3) := by decide +kernel
theorem dX8_print_56 : decode cX8_print 56 = .ok (.aload_n 0, 1) := by decide +kernel
theorem dX8_print_57 : decode cX8_print 57 = .ok (.getfield 7, 3) := by decide +kernel
theorem dX8_print_60 : decode cX8_print 60 = .ok (.bipush 72, 2) := by decide +kernel
theorem dX8_print_62 : decode cX8_print 62 = .ok (.iload_n 1, 1) := by decide +kernel
theorem dX8_print_63 : decode cX8_print 63 = .ok (.iadd, 1) := by decide +kernel
theorem dX8_print_64 : decode cX8_print 64 = .ok (.iload_n 2, 1) := by decide +kernel
theorem dX8_print_65 : decode cX8_print 65 = .ok (.iastore, 1) := by decide +kernel
theorem dX8_print_66 : decode cX8_print 66 = .ok (.iload_n 3, 1) := by decide +kernel
theorem dX8_print_67 : decode cX8_print 67 = .ok (.bipush (-5), 2) := by decide +kernel
theorem dX8_print_69 : decode cX8_print 69 = .ok (.if_icmp .ne 9, 3) := by decide +kernel
theorem dX8_print_72 : decode cX8_print 72 = .ok (.sipush 200, 3) := by decide +kernel
theorem dX8_print_75 : decode cX8_print 75 = .ok (.goto 4, 3) := by decide +kernel
theorem dX8_print_78 : decode cX8_print 78 = .ok (.iload_n 3, 1) := by decide +kernel
theorem dX8_print_79 : decode cX8_print 79 = .ok (.ireturn, 1) := by decide +kernel
theorem dX8_wouldTurn_0 : decode cX8_wouldTurn 0 = .ok (.aload_n 0, 1) := by decide +kernel
theorem dX8_wouldTurn_1 : decode cX8_wouldTurn 1 = .ok (.iconst 1, 1) := by decide +kernel
theorem dX8_wouldTurn_2 : decode cX8_wouldTurn 2 = .ok (.iaload, 1) := by decide +kernel
theorem dX8_wouldTurn_3 : decode cX8_wouldTurn 3 = .ok (.istore_n 2, 1) := by decide +kernel
theorem dX8_wouldTurn_4 : decode cX8_wouldTurn 4 = .ok (.aload_n 0, 1) := by decide +kernel
theorem dX8_wouldTurn_5 : decode cX8_wouldTurn 5 = .ok (.bipush 12, 2) := by decide +kernel
theorem dX8_wouldTurn_7 : decode cX8_wouldTurn 7 = .ok (.iload_n 2, 1) := by decide +kernel
theorem dX8_wouldTurn_8 : decode cX8_wouldTurn 8 = .ok (.iadd, 1) := by decide +kernel
theorem dX8_wouldTurn_9 : decode cX8_wouldTurn 9 = .ok (.iaload, 1) := by decide +kernel
theorem dX8_wouldTurn_10 : decode cX8_wouldTurn 10 = .ok (.istore_n 3, 1) := by decide +kernel
theorem dX8_wouldTurn_11 : decode cX8_wouldTurn 11 = .ok (.iload_n 1, 1) := by decide +kernel
theorem dX8_wouldTurn_12 : decode cX8_wouldTurn 12 = .ok (.iload_n 3, 1) := by decide +kernel
theorem dX8_wouldTurn_13 : decode cX8_wouldTurn 13 = .ok (.if_icmp .ge 5, 3) := by decide +kernel
theorem dX8_wouldTurn_16 : decode cX8_wouldTurn 16 = .ok (.iconst 0, 1) := by decide +kernel
theorem dX8_wouldTurn_17 : decode cX8_wouldTurn 17 = .ok (.ireturn, 1) := by decide +kernel
theorem dX8_wouldTurn_18 : decode cX8_wouldTurn 18 = .ok (.iconst 1, 1) := by decide +kernel
theorem dX8_wouldTurn_19 : decode cX8_wouldTurn 19 = .ok (.istore 4, 2) := by decide +kernel
theorem dX8_wouldTurn_21 : decode cX8_wouldTurn 21 = .ok (.iload_n 2, 1) := by decide +kernel
theorem dX8_wouldTurn_22 : decode cX8_wouldTurn 22 = .ok (.iload 4, 2) := by decide +kernel
theorem dX8_wouldTurn_24 : decode cX8_wouldTurn 24 = .ok (.iadd, 1) := by decide +kernel
theorem dX8_wouldTurn_25 : decode cX8_wouldTurn 25 = .ok (.aload_n 0, 1) := by decide +kernel
theorem dX8_wouldTurn_26 : decode cX8_wouldTurn 26 = .ok (.iconst 0, 1) := by decide +kernel
theorem dX8_wouldTurn_27 : decode cX8_wouldTurn 27 = .ok (.iaload, 1) := by decide +kernel
theorem dX8_wouldTurn_28 : decode cX8_wouldTurn 28 = .ok (.if_icmp .ge 53, 3) := by decide +kernel
theorem dX8_wouldTurn_31 : decode cX8_wouldTurn 31 = .ok (.iload_n 1, 1) := by decide +kernel
theorem dX8_wouldTurn_32 : decode cX8_wouldTurn 32 = .ok (.iload_n 3, 1) := by decide +kernel
theorem dX8_wouldTurn_33 : decode cX8_wouldTurn 33 = .ok (.aload_n 0, 1) := by decide +kernel
theorem dX8_wouldTurn_34 : decode cX8_wouldTurn 34 = .ok (.bipush 12, 2) := by decide +kernel
theorem dX8_wouldTurn_36 : decode cX8_wouldTurn 36 = .ok (.iload_n 2, 1) := by decide +kernel
theorem dX8_wouldTurn_37 : decode cX8_wouldTurn 37 = .ok (.iadd, 1) := by decide +kernel
theorem dX8_wouldTurn_38 : decode cX8_wouldTurn 38 = .ok (.iload 4, 2) := by decide +kernel
theorem dX8_wouldTurn_40 : decode cX8_wouldTurn 40 = .ok (.iadd, 1) := by decide +kernel
theorem dX8_wouldTurn_41 : decode cX8_wouldTurn 41 = .ok (.iaload, 1) := by decide +kernel
theorem dX8_wouldTurn_42 : decode cX8_wouldTurn 42 = .ok (.iadd, 1) := by decide +kernel
theorem dX8_wouldTurn_43 : decode cX8_wouldTurn 43 = .ok (.if_icmp .lt 38, 3) := by decide +kernel
theorem dX8_wouldTurn_46 : decode cX8_wouldTurn 46 = .ok (.iload_n 1, 1) := by decide +kernel
theorem dX8_wouldTurn_47 : decode cX8_wouldTurn 47 = .ok (.iload_n 3, 1) := by decide +kernel
theorem dX8_wouldTurn_48 : decode cX8_wouldTurn 48 = .ok (.isub, 1) := by decide +kernel
theorem dX8_wouldTurn_49 : decode cX8_wouldTurn 49 = .ok (.aload_n 0, 1) := by decide +kernel
theorem dX8_wouldTurn_50 : decode cX8_wouldTurn 50 = .ok (.bipush 42, 2) := by decide +kernel
theorem dX8_wouldTurn_52 : decode cX8_wouldTurn 52 = .ok (.iload_n 2, 1) := by decide +kernel
theorem dX8_wouldTurn_53 : decode cX8_wouldTurn 53 = .ok (.iadd, 1) := by decide +kernel
theorem dX8_wouldTurn_54 : decode cX8_wouldTurn 54 = .ok (.iload 4, 2) := by decide +kernel
theorem dX8_wouldTurn_56 : decode cX8_wouldTurn 56 = .ok (.iadd, 1) := by decide +kernel
theorem dX8_wouldTurn_57 : decode cX8_wouldTurn 57 = .ok (.iconst 1, 1) := by decide +kernel
theorem dX8_wouldTurn_58 : decode cX8_wouldTurn 58 = .ok (.isub, 1) := by decide +kernel
theorem dX8_wouldTurn_59 : decode cX8_wouldTurn 59 = .ok (.iaload, 1) := by decide +kernel
theorem dX8_wouldTurn_60 : decode cX8_wouldTurn 60 = .ok (.if_icmp .ge 21, 3) := by decide +kernel
theorem dX8_wouldTurn_63 : decode cX8_wouldTurn 63 = .ok (.iload_n 3, 1) := by decide +kernel
theorem dX8_wouldTurn_64 : decode cX8_wouldTurn 64 = .ok (.aload_n 0, 1) := by decide +kernel
theorem dX8_wouldTurn_65 : decode cX8_wouldTurn 65 = .ok (.bipush 12, 2) := by decide +kernel
theorem dX8_wouldTurn_67 : decode cX8_wouldTurn 67 = .ok (.iload_n 2, 1) := by decide +kernel
theorem dX8_wouldTurn_68 : decode cX8_wouldTurn 68 = .ok (.iadd, 1) := by decide +kernel
theorem dX8_wouldTurn_69 : decode cX8_wouldTurn 69 = .ok (.iload 4, 2) := by decide +kernel
theorem dX8_wouldTurn_71 : decode cX8_wouldTurn 71 = .ok (.iadd, 1) := by decide +kernel
theorem dX8_wouldTurn_72 : decode cX8_wouldTurn 72 = .ok (.iaload, 1) := by decide +kernel
theorem dX8_wouldTurn_73 : decode cX8_wouldTurn 73 = .ok (.iadd, 1) := by decide +kernel
theorem dX8_wouldTurn_74 : decode cX8_wouldTurn 74 = .ok (.istore_n 3, 1) := by decide +kernel
theorem dX8_wouldTurn_75 : decode cX8_wouldTurn 75 = .ok (.iinc 4 1, 3) := by decide +kernel
theorem dX8_wouldTurn_78 : decode cX8_wouldTurn 78 = .ok (.goto (-57), 3) := by decide +kernel
theorem dX8_wouldTurn_81 : decode cX8_wouldTurn 81 = .ok (.iload 4, 2) := by decide +kernel
theorem dX8_wouldTurn_83 : decode cX8_wouldTurn 83 = .ok (.ireturn, 1) := by decide +kernel
theorem dX8_learns_0 : decode cX8_learns 0 = .ok (.aload_n 0, 1) := by decide +kernel
theorem dX8_learns_1 : decode cX8_learns 1 = .ok (.bipush 7, 2) := by decide +kernel
theorem dX8_learns_3 : decode cX8_learns 3 = .ok (.iload_n 1, 1) := by decide +kernel
theorem dX8_learns_4 : decode cX8_learns 4 = .ok (.iconst 1, 1) := by decide +kernel
theorem dX8_learns_5 : decode cX8_learns 5 = .ok (.if_icmp .ne 12, 3) := by decide +kernel
theorem dX8_learns_8 : decode cX8_learns 8 = .ok (.aload_n 0, 1) := by decide +kernel
theorem dX8_learns_9 : decode cX8_learns 9 = .ok (.bipush 7, 2) := by decide +kernel
theorem dX8_learns_11 : decode cX8_learns 11 = .ok (.iaload, 1) := by decide +kernel
theorem dX8_learns_12 : decode cX8_learns 12 = .ok (.iconst 1, 1) := by decide +kernel
theorem dX8_learns_13 : decode cX8_learns 13 = .ok (.iadd, 1) := by decide +kernel
theorem dX8_learns_14 : decode cX8_learns 14 = .ok (.goto 4, 3) := by decide +kernel
theorem dX8_learns_17 : decode cX8_learns 17 = .ok (.iconst 0, 1) := by decide +kernel
theorem dX8_learns_18 : decode cX8_learns 18 = .ok (.iastore, 1) := by decide +kernel
theorem dX8_learns_19 : decode cX8_learns 19 = .ok (.iload_n 1, 1) := by decide +kernel
theorem dX8_learns_20 : decode cX8_learns 20 = .ok (.ifCond .ne 7, 3) := by decide +kernel
theorem dX8_learns_23 : decode cX8_learns 23 = .ok (.iconst 2, 1) := by decide +kernel
theorem dX8_learns_24 : decode cX8_learns 24 = .ok (.goto 25, 3) := by decide +kernel
theorem dX8_learns_27 : decode cX8_learns 27 = .ok (.iload_n 1, 1) := by decide +kernel
theorem dX8_learns_28 : decode cX8_learns 28 = .ok (.iconst 1, 1) := by decide +kernel
theorem dX8_learns_29 : decode cX8_learns 29 = .ok (.if_icmp .le 7, 3) := by decide +kernel
theorem dX8_learns_32 : decode cX8_learns 32 = .ok (.iconst 1, 1) := by decide +kernel
theorem dX8_learns_33 : decode cX8_learns 33 = .ok (.goto 16, 3) := by decide +kernel
theorem dX8_learns_36 : decode cX8_learns 36 = .ok (.aload_n 0, 1) := by decide +kernel
theorem dX8_learns_37 : decode cX8_learns 37 = .ok (.bipush 7, 2) := by decide +kernel
theorem dX8_learns_39 : decode cX8_learns 39 = .ok (.iaload, 1) := by decide +kernel
theorem dX8_learns_40 : decode cX8_learns 40 = .ok (.iconst 5, 1) := by decide +kernel
theorem dX8_learns_41 : decode cX8_learns 41 = .ok (.if_icmp .ne 7, 3) := by decide +kernel
theorem dX8_learns_44 : decode cX8_learns 44 = .ok (.iconst (-1), 1) := by decide +kernel
theorem dX8_learns_45 : decode cX8_learns 45 = .ok (.goto 4, 3) := by decide +kernel
theorem dX8_learns_48 : decode cX8_learns 48 = .ok (.iconst 0, 1) := by decide +kernel
theorem dX8_learns_49 : decode cX8_learns 49 = .ok (.istore_n 2, 1) := by decide +kernel
theorem dX8_learns_50 : decode cX8_learns 50 = .ok (.aload_n 0, 1) := by decide +kernel
theorem dX8_learns_51 : decode cX8_learns 51 = .ok (.bipush 7, 2) := by decide +kernel
theorem dX8_learns_53 : decode cX8_learns 53 = .ok (.dup2, 1) := by decide +kernel
theorem dX8_learns_54 : decode cX8_learns 54 = .ok (.iaload, 1) := by decide +kernel
theorem dX8_learns_55 : decode cX8_learns 55 = .ok (.iconst 5, 1) := by decide +kernel
theorem dX8_learns_56 : decode cX8_learns 56 = .ok (.irem, 1) := by decide +kernel
theorem dX8_learns_57 : decode cX8_learns 57 = .ok (.iastore, 1) := by decide +kernel
theorem dX8_learns_58 : decode cX8_learns 58 = .ok (.aload_n 0, 1) := by decide +kernel
theorem dX8_learns_59 : decode cX8_learns 59 = .ok (.bipush 10, 2) := by decide +kernel
theorem dX8_learns_61 : decode cX8_learns 61 = .ok (.iaload, 1) := by decide +kernel
theorem dX8_learns_62 : decode cX8_learns 62 = .ok (.iconst 1, 1) := by decide +kernel
theorem dX8_learns_63 : decode cX8_learns 63 = .ok (.if_icmp .ne 35, 3) := by decide +kernel
theorem dX8_learns_66 : decode cX8_learns 66 = .ok (.aload_n 0, 1) := by decide +kernel
theorem dX8_learns_67 : decode cX8_learns 67 = .ok (.bipush 8, 2) := by decide +kernel
theorem dX8_learns_69 : decode cX8_learns 69 = .ok (.iaload, 1) := by decide +kernel
theorem dX8_learns_70 : decode cX8_learns 70 = .ok (.iload_n 2, 1) := by decide +kernel
theorem dX8_learns_71 : decode cX8_learns 71 = .ok (.iadd, 1) := by decide +kernel
theorem dX8_learns_72 : decode cX8_learns 72 = .ok (.istore_n 3, 1) := by decide +kernel
theorem dX8_learns_73 : decode cX8_learns 73 = .ok (.aload_n 0, 1) := by decide +kernel
theorem dX8_learns_74 : decode cX8_learns 74 = .ok (.bipush 8, 2) := by decide +kernel
theorem dX8_learns_76 : decode cX8_learns 76 = .ok (.iload_n 3, 1) := by decide +kernel
theorem dX8_learns_77 : decode cX8_learns 77 = .ok (.iconst 1, 1) := by decide +kernel
theorem dX8_learns_78 : decode cX8_learns 78 = .ok (.if_icmp .ge 7, 3) := by decide +kernel
theorem dX8_learns_81 : decode cX8_learns 81 = .ok (.iconst 1, 1) := by decide +kernel
theorem dX8_learns_82 : decode cX8_learns 82 = .ok (.goto 15, 3) := by decide +kernel
theorem dX8_learns_85 : decode cX8_learns 85 = .ok (.iload_n 3, 1) := by decide +kernel
theorem dX8_learns_86 : decode cX8_learns 86 = .ok (.bipush 20, 2) := by decide +kernel
theorem dX8_learns_88 : decode cX8_learns 88 = .ok (.if_icmp .le 8, 3) := by decide +kernel
theorem dX8_learns_91 : decode cX8_learns 91 = .ok (.bipush 20, 2) := by decide +kernel
theorem dX8_learns_93 : decode cX8_learns 93 = .ok (.goto 4, 3) := by decide +kernel
theorem dX8_learns_96 : decode cX8_learns 96 = .ok (.iload_n 3, 1) := by decide +kernel
theorem dX8_learns_97 : decode cX8_learns 97 = .ok (.iastore, 1) := by decide +kernel
theorem dX8_learns_98 : decode cX8_learns 98 = .ok (.return_, 1) := by decide +kernel
set_option maxRecDepth 20000 in
theorem ggX8_turns_X8_wouldTurn : GoodIn wsX8_turns wsX8_wouldTurn := goodIn_r _ [4] (by decide +kernel) (by decide +kernel)
set_option maxRecDepth 20000 in
theorem gX8_turns_X8_wouldTurn : GoodIn wsX8_turns (va_wsS RX8 69 yX8_wouldTurn wsX8_wouldTurn) := goodIn_app (goodIn_of _ (by decide +kernel)) ggX8_turns_X8_wouldTurn
set_option maxRecDepth 20000 in
theorem ggX8_turns_X8_learns : GoodIn wsX8_turns wsX8_learns := goodIn_r _ [7] (by decide +kernel) (by decide +kernel)
set_option maxRecDepth 20000 in
theorem gX8_turns_X8_learns : GoodIn wsX8_turns (va_wsS RX8 73 yX8_learns wsX8_learns) := goodIn_app (goodIn_of _ (by decide +kernel)) ggX8_turns_X8_learns
theorem dX8_turns_0 : decode cX8_turns 0 = .ok (.aload_n 0, 1) := by decide +kernel
theorem dX8_turns_1 : decode cX8_turns 1 = .ok (.aload_n 0, 1) := by decide +kernel
theorem dX8_turns_2 : decode cX8_turns 2 = .ok (.bipush 8, 2) := by decide +kernel
theorem dX8_turns_4 : decode cX8_turns 4 = .ok (.iaload, 1) := by decide +kernel
theorem dX8_turns_5 : decode cX8_turns 5 = .ok (.invokestatic 69, 3) := by decide +kernel
theorem dX8_turns_8 : decode cX8_turns 8 = .ok (.istore_n 1, 1) := by decide +kernel
theorem dX8_turns_9 : decode cX8_turns 9 = .ok (.aload_n 0, 1) := by decide +kernel
theorem dX8_turns_10 : decode cX8_turns 10 = .ok (.iconst 1, 1) := by decide +kernel
theorem dX8_turns_11 : decode cX8_turns 11 = .ok (.dup2, 1) := by decide +kernel
theorem dX8_turns_12 : decode cX8_turns 12 = .ok (.iaload, 1) := by decide +kernel
theorem dX8_turns_13 : decode cX8_turns 13 = .ok (.iload_n 1, 1) := by decide +kernel
theorem dX8_turns_14 : decode cX8_turns 14 = .ok (.iadd, 1) := by decide +kernel
theorem dX8_turns_15 : decode cX8_turns 15 = .ok (.iastore, 1) := by decide +kernel
theorem dX8_turns_16 : decode cX8_turns 16 = .ok (.aload_n 0, 1) := by decide +kernel
theorem dX8_turns_17 : decode cX8_turns 17 = .ok (.iconst 4, 1) := by decide +kernel
theorem dX8_turns_18 : decode cX8_turns 18 = .ok (.dup2, 1) := by decide +kernel
theorem dX8_turns_19 : decode cX8_turns 19 = .ok (.iaload, 1) := by decide +kernel
theorem dX8_turns_20 : decode cX8_turns 20 = .ok (.iconst 1, 1) := by decide +kernel
theorem dX8_turns_21 : decode cX8_turns 21 = .ok (.iadd, 1) := by decide +kernel
theorem dX8_turns_22 : decode cX8_turns 22 = .ok (.iastore, 1) := by decide +kernel
theorem dX8_turns_23 : decode cX8_turns 23 = .ok (.aload_n 0, 1) := by decide +kernel
theorem dX8_turns_24 : decode cX8_turns 24 = .ok (.iconst 5, 1) := by decide +kernel
theorem dX8_turns_25 : decode cX8_turns 25 = .ok (.dup2, 1) := by decide +kernel
theorem dX8_turns_26 : decode cX8_turns 26 = .ok (.iaload, 1) := by decide +kernel
theorem dX8_turns_27 : decode cX8_turns 27 = .ok (.iload_n 1, 1) := by decide +kernel
theorem dX8_turns_28 : decode cX8_turns 28 = .ok (.iconst 1, 1) := by decide +kernel
theorem dX8_turns_29 : decode cX8_turns 29 = .ok (.if_icmp .le 7, 3) := by decide +kernel
theorem dX8_turns_32 : decode cX8_turns 32 = .ok (.iconst 1, 1) := by decide +kernel
theorem dX8_turns_33 : decode cX8_turns 33 = .ok (.goto 4, 3) := by decide +kernel
theorem dX8_turns_36 : decode cX8_turns 36 = .ok (.iconst 0, 1) := by decide +kernel
theorem dX8_turns_37 : decode cX8_turns 37 = .ok (.iadd, 1) := by decide +kernel
theorem dX8_turns_38 : decode cX8_turns 38 = .ok (.iastore, 1) := by decide +kernel
theorem dX8_turns_39 : decode cX8_turns 39 = .ok (.aload_n 0, 1) := by decide +kernel
theorem dX8_turns_40 : decode cX8_turns 40 = .ok (.bipush 6, 2) := by decide +kernel
theorem dX8_turns_42 : decode cX8_turns 42 = .ok (.dup2, 1) := by decide +kernel
theorem dX8_turns_43 : decode cX8_turns 43 = .ok (.iaload, 1) := by decide +kernel
theorem dX8_turns_44 : decode cX8_turns 44 = .ok (.iload_n 1, 1) := by decide +kernel
theorem dX8_turns_45 : decode cX8_turns 45 = .ok (.ifCond .ne 7, 3) := by decide +kernel
theorem dX8_turns_48 : decode cX8_turns 48 = .ok (.iconst 1, 1) := by decide +kernel
theorem dX8_turns_49 : decode cX8_turns 49 = .ok (.goto 4, 3) := by decide +kernel
theorem dX8_turns_52 : decode cX8_turns 52 = .ok (.iconst 0, 1) := by decide +kernel
theorem dX8_turns_53 : decode cX8_turns 53 = .ok (.iadd, 1) := by decide +kernel
theorem dX8_turns_54 : decode cX8_turns 54 = .ok (.iastore, 1) := by decide +kernel
theorem dX8_turns_55 : decode cX8_turns 55 = .ok (.aload_n 0, 1) := by decide +kernel
theorem dX8_turns_56 : decode cX8_turns 56 = .ok (.iload_n 1, 1) := by decide +kernel
theorem dX8_turns_57 : decode cX8_turns 57 = .ok (.invokestatic 73, 3) := by decide +kernel
theorem dX8_turns_60 : decode cX8_turns 60 = .ok (.iload_n 1, 1) := by decide +kernel
theorem dX8_turns_61 : decode cX8_turns 61 = .ok (.ireturn, 1) := by decide +kernel
theorem dX8_isRight_0 : decode cX8_isRight 0 = .ok (.aload_n 0, 1) := by decide +kernel
theorem dX8_isRight_1 : decode cX8_isRight 1 = .ok (.getfield 7, 3) := by decide +kernel
theorem dX8_isRight_4 : decode cX8_isRight 4 = .ok (.iconst 1, 1) := by decide +kernel
theorem dX8_isRight_5 : decode cX8_isRight 5 = .ok (.iaload, 1) := by decide +kernel
theorem dX8_isRight_6 : decode cX8_isRight 6 = .ok (.aload_n 0, 1) := by decide +kernel
theorem dX8_isRight_7 : decode cX8_isRight 7 = .ok (.getfield 7, 3) := by decide +kernel
theorem dX8_isRight_10 : decode cX8_isRight 10 = .ok (.iconst 0, 1) := by decide +kernel
theorem dX8_isRight_11 : decode cX8_isRight 11 = .ok (.iaload, 1) := by decide +kernel
theorem dX8_isRight_12 : decode cX8_isRight 12 = .ok (.if_icmp .ge 7, 3) := by decide +kernel
theorem dX8_isRight_15 : decode cX8_isRight 15 = .ok (.iconst 1, 1) := by decide +kernel
theorem dX8_isRight_16 : decode cX8_isRight 16 = .ok (.goto 4, 3) := by decide +kernel
theorem dX8_isRight_19 : decode cX8_isRight 19 = .ok (.iconst 0, 1) := by decide +kernel
theorem dX8_isRight_20 : decode cX8_isRight 20 = .ok (.ireturn, 1) := by decide +kernel
set_option maxRecDepth 20000 in
theorem ggX8_turn_X8_isRight : GoodIn wsX8_turn wsX8_isRight := goodIn_r _ [6, 1, 25, 26, 27, 28, 29, 30, 31, 32, 33, 34, 35, 36, 37] (by decide +kernel) (by decide +kernel)
set_option maxRecDepth 20000 in
theorem gX8_turn_X8_isRight : GoodIn wsX8_turn (wsV RX8 77 RX8 yX8_isRight wsX8_isRight) := goodIn_app (goodIn_of _ (by decide +kernel)) ggX8_turn_X8_isRight
set_option maxRecDepth 20000 in
theorem ggX8_turn_X8_records : GoodIn wsX8_turn wsX8_records := goodIn_r _ [10, 11, 12, 13, 14, 5, 15, 25, 26, 27, 28, 29, 30, 31, 32, 33, 34, 35, 36, 37] (by decide +kernel) (by decide +kernel)
set_option maxRecDepth 20000 in
theorem gX8_turn_X8_records : GoodIn wsX8_turn (wsV RX8 47 RX8 yX8_records wsX8_records) := goodIn_app (goodIn_of _ (by decide +kernel)) ggX8_turn_X8_records
set_option maxRecDepth 20000 in
theorem ggX8_turn_X8_turns : GoodIn wsX8_turn wsX8_turns := goodIn_r _ [18, 19, 20, 5, 21, 22, 23, 24] (by decide +kernel) (by decide +kernel)
set_option maxRecDepth 20000 in
theorem gX8_turn_X8_turns : GoodIn wsX8_turn (va_wsS RX8 81 yX8_turns wsX8_turns) := goodIn_app (goodIn_of _ (by decide +kernel)) ggX8_turn_X8_turns
theorem dX8_turn_0 : decode cX8_turn 0 = .ok (.aload_n 0, 1) := by decide +kernel
theorem dX8_turn_1 : decode cX8_turn 1 = .ok (.invokevirtual 77, 3) := by decide +kernel
theorem dX8_turn_4 : decode cX8_turn 4 = .ok (.ifCond .ne 6, 3) := by decide +kernel
theorem dX8_turn_7 : decode cX8_turn 7 = .ok (.bipush (-4), 2) := by decide +kernel
theorem dX8_turn_9 : decode cX8_turn 9 = .ok (.ireturn, 1) := by decide +kernel
theorem dX8_turn_10 : decode cX8_turn 10 = .ok (.aload_n 0, 1) := by decide +kernel
theorem dX8_turn_11 : decode cX8_turn 11 = .ok (.aload_n 0, 1) := by decide +kernel
theorem dX8_turn_12 : decode cX8_turn 12 = .ok (.getfield 7, 3) := by decide +kernel
theorem dX8_turn_15 : decode cX8_turn 15 = .ok (.invokevirtual 47, 3) := by decide +kernel
theorem dX8_turn_18 : decode cX8_turn 18 = .ok (.aload_n 0, 1) := by decide +kernel
theorem dX8_turn_19 : decode cX8_turn 19 = .ok (.getfield 7, 3) := by decide +kernel
theorem dX8_turn_22 : decode cX8_turn 22 = .ok (.invokestatic 81, 3) := by decide +kernel
theorem dX8_turn_25 : decode cX8_turn 25 = .ok (.ireturn, 1) := by decide +kernel
set_option maxRecDepth 20000 in
theorem ggX8_turnBack_X8_records : GoodIn wsX8_turnBack wsX8_records := goodIn_r _ [6, 7, 8, 9, 10, 5, 11, 12, 13, 14, 15, 16, 17, 18, 19, 20, 21, 22, 23, 24] (by decide +kernel) (by decide +kernel)
set_option maxRecDepth 20000 in
theorem gX8_turnBack_X8_records : GoodIn wsX8_turnBack (wsV RX8 47 RX8 yX8_records wsX8_records) := goodIn_app (goodIn_of _ (by decide +kernel)) ggX8_turnBack_X8_records
theorem dX8_turnBack_0 : decode cX8_turnBack 0 = .ok (.aload_n 0, 1) := by decide +kernel
theorem dX8_turnBack_1 : decode cX8_turnBack 1 = .ok (.getfield 7, 3) := by decide +kernel
theorem dX8_turnBack_4 : decode cX8_turnBack 4 = .ok (.iconst 1, 1) := by decide +kernel
theorem dX8_turnBack_5 : decode cX8_turnBack 5 = .ok (.iaload, 1) := by decide +kernel
theorem dX8_turnBack_6 : decode cX8_turnBack 6 = .ok (.ifCond .ne 6, 3) := by decide +kernel
theorem dX8_turnBack_9 : decode cX8_turnBack 9 = .ok (.bipush (-4), 2) := by decide +kernel
theorem dX8_turnBack_11 : decode cX8_turnBack 11 = .ok (.ireturn, 1) := by decide +kernel
theorem dX8_turnBack_12 : decode cX8_turnBack 12 = .ok (.aload_n 0, 1) := by decide +kernel
theorem dX8_turnBack_13 : decode cX8_turnBack 13 = .ok (.aload_n 0, 1) := by decide +kernel
theorem dX8_turnBack_14 : decode cX8_turnBack 14 = .ok (.getfield 7, 3) := by decide +kernel
theorem dX8_turnBack_17 : decode cX8_turnBack 17 = .ok (.invokevirtual 47, 3) := by decide +kernel
theorem dX8_turnBack_20 : decode cX8_turnBack 20 = .ok (.aload_n 0, 1) := by decide +kernel
theorem dX8_turnBack_21 : decode cX8_turnBack 21 = .ok (.getfield 7, 3) := by decide +kernel
theorem dX8_turnBack_24 : decode cX8_turnBack 24 = .ok (.iconst 1, 1) := by decide +kernel
theorem dX8_turnBack_25 : decode cX8_turnBack 25 = .ok (.dup2, 1) := by decide +kernel
theorem dX8_turnBack_26 : decode cX8_turnBack 26 = .ok (.iaload, 1) := by decide +kernel
theorem dX8_turnBack_27 : decode cX8_turnBack 27 = .ok (.iconst 1, 1) := by decide +kernel
theorem dX8_turnBack_28 : decode cX8_turnBack 28 = .ok (.isub, 1) := by decide +kernel
theorem dX8_turnBack_29 : decode cX8_turnBack 29 = .ok (.iastore, 1) := by decide +kernel
theorem dX8_turnBack_30 : decode cX8_turnBack 30 = .ok (.aload_n 0, 1) := by decide +kernel
theorem dX8_turnBack_31 : decode cX8_turnBack 31 = .ok (.getfield 7, 3) := by decide +kernel
theorem dX8_turnBack_34 : decode cX8_turnBack 34 = .ok (.iconst 1, 1) := by decide +kernel
theorem dX8_turnBack_35 : decode cX8_turnBack 35 = .ok (.iaload, 1) := by decide +kernel
theorem dX8_turnBack_36 : decode cX8_turnBack 36 = .ok (.ireturn, 1) := by decide +kernel
theorem dX8_isGood_0 : decode cX8_isGood 0 = .ok (.iload_n 1, 1) := by decide +kernel
theorem dX8_isGood_1 : decode cX8_isGood 1 = .ok (.aload_n 0, 1) := by decide +kernel
theorem dX8_isGood_2 : decode cX8_isGood 2 = .ok (.bipush 9, 2) := by decide +kernel
theorem dX8_isGood_4 : decode cX8_isGood 4 = .ok (.iaload, 1) := by decide +kernel
theorem dX8_isGood_5 : decode cX8_isGood 5 = .ok (.if_icmp .ge 15, 3) := by decide +kernel
theorem dX8_isGood_8 : decode cX8_isGood 8 = .ok (.aload_n 0, 1) := by decide +kernel
theorem dX8_isGood_9 : decode cX8_isGood 9 = .ok (.iconst 0, 1) := by decide +kernel
theorem dX8_isGood_10 : decode cX8_isGood 10 = .ok (.iaload, 1) := by decide +kernel
theorem dX8_isGood_11 : decode cX8_isGood 11 = .ok (.iconst 2, 1) := by decide +kernel
theorem dX8_isGood_12 : decode cX8_isGood 12 = .ok (.aload_n 0, 1) := by decide +kernel
theorem dX8_isGood_13 : decode cX8_isGood 13 = .ok (.bipush 9, 2) := by decide +kernel
theorem dX8_isGood_15 : decode cX8_isGood 15 = .ok (.iaload, 1) := by decide +kernel
theorem dX8_isGood_16 : decode cX8_isGood 16 = .ok (.imul, 1) := by decide +kernel
theorem dX8_isGood_17 : decode cX8_isGood 17 = .ok (.if_icmp .ge 7, 3) := by decide +kernel
theorem dX8_isGood_20 : decode cX8_isGood 20 = .ok (.iconst 1, 1) := by decide +kernel
theorem dX8_isGood_21 : decode cX8_isGood 21 = .ok (.goto 4, 3) := by decide +kernel
theorem dX8_isGood_24 : decode cX8_isGood 24 = .ok (.iconst 0, 1) := by decide +kernel
theorem dX8_isGood_25 : decode cX8_isGood 25 = .ok (.ireturn, 1) := by decide +kernel
theorem dX8_openOn_0 : decode cX8_openOn 0 = .ok (.iload_n 1, 1) := by decide +kernel
theorem dX8_openOn_1 : decode cX8_openOn 1 = .ok (.ifCond .ne 24, 3) := by decide +kernel
theorem dX8_openOn_4 : decode cX8_openOn 4 = .ok (.aload_n 0, 1) := by decide +kernel
theorem dX8_openOn_5 : decode cX8_openOn 5 = .ok (.iconst 1, 1) := by decide +kernel
theorem dX8_openOn_6 : decode cX8_openOn 6 = .ok (.iaload, 1) := by decide +kernel
theorem dX8_openOn_7 : decode cX8_openOn 7 = .ok (.ifCond .ne 8, 3) := by decide +kernel
theorem dX8_openOn_10 : decode cX8_openOn 10 = .ok (.bipush (-5), 2) := by decide +kernel
theorem dX8_openOn_12 : decode cX8_openOn 12 = .ok (.goto 32, 3) := by decide +kernel
theorem dX8_openOn_15 : decode cX8_openOn 15 = .ok (.iconst 2, 1) := by decide +kernel
theorem dX8_openOn_16 : decode cX8_openOn 16 = .ok (.aload_n 0, 1) := by decide +kernel
theorem dX8_openOn_17 : decode cX8_openOn 17 = .ok (.iconst 1, 1) := by decide +kernel
theorem dX8_openOn_18 : decode cX8_openOn 18 = .ok (.iaload, 1) := by decide +kernel
theorem dX8_openOn_19 : decode cX8_openOn 19 = .ok (.imul, 1) := by decide +kernel
theorem dX8_openOn_20 : decode cX8_openOn 20 = .ok (.iconst 1, 1) := by decide +kernel
theorem dX8_openOn_21 : decode cX8_openOn 21 = .ok (.isub, 1) := by decide +kernel
theorem dX8_openOn_22 : decode cX8_openOn 22 = .ok (.goto 22, 3) := by decide +kernel
theorem dX8_openOn_25 : decode cX8_openOn 25 = .ok (.aload_n 0, 1) := by decide +kernel
theorem dX8_openOn_26 : decode cX8_openOn 26 = .ok (.iconst 1, 1) := by decide +kernel
theorem dX8_openOn_27 : decode cX8_openOn 27 = .ok (.iaload, 1) := by decide +kernel
theorem dX8_openOn_28 : decode cX8_openOn 28 = .ok (.aload_n 0, 1) := by decide +kernel
theorem dX8_openOn_29 : decode cX8_openOn 29 = .ok (.iconst 0, 1) := by decide +kernel
theorem dX8_openOn_30 : decode cX8_openOn 30 = .ok (.iaload, 1) := by decide +kernel
theorem dX8_openOn_31 : decode cX8_openOn 31 = .ok (.if_icmp .ne 8, 3) := by decide +kernel
theorem dX8_openOn_34 : decode cX8_openOn 34 = .ok (.bipush (-5), 2) := by decide +kernel
theorem dX8_openOn_36 : decode cX8_openOn 36 = .ok (.goto 8, 3) := by decide +kernel
theorem dX8_openOn_39 : decode cX8_openOn 39 = .ok (.iconst 2, 1) := by decide +kernel
theorem dX8_openOn_40 : decode cX8_openOn 40 = .ok (.aload_n 0, 1) := by decide +kernel
theorem dX8_openOn_41 : decode cX8_openOn 41 = .ok (.iconst 1, 1) := by decide +kernel
theorem dX8_openOn_42 : decode cX8_openOn 42 = .ok (.iaload, 1) := by decide +kernel
theorem dX8_openOn_43 : decode cX8_openOn 43 = .ok (.imul, 1) := by decide +kernel
theorem dX8_openOn_44 : decode cX8_openOn 44 = .ok (.ireturn, 1) := by decide +kernel
set_option maxRecDepth 20000 in
theorem ggX8_shots_X8_openOn : GoodIn wsX8_shots wsX8_openOn := goodIn_r _ [4] (by decide +kernel) (by decide +kernel)
set_option maxRecDepth 20000 in
theorem gX8_shots_X8_openOn : GoodIn wsX8_shots (va_wsS RX8 85 yX8_openOn wsX8_openOn) := goodIn_app (goodIn_of _ (by decide +kernel)) ggX8_shots_X8_openOn
set_option maxRecDepth 20000 in
theorem ggX8_shots_X8_takes : GoodIn wsX8_shots wsX8_takes := goodIn_r _ [7, 8, 9, 3, 10] (by decide +kernel) (by decide +kernel)
set_option maxRecDepth 20000 in
theorem gX8_shots_X8_takes : GoodIn wsX8_shots (va_wsS RX8 88 yX8_takes wsX8_takes) := goodIn_app (goodIn_of _ (by decide +kernel)) ggX8_shots_X8_takes
theorem dX8_shots_0 : decode cX8_shots 0 = .ok (.iconst 0, 1) := by decide +kernel
theorem dX8_shots_1 : decode cX8_shots 1 = .ok (.istore_n 1, 1) := by decide +kernel
theorem dX8_shots_2 : decode cX8_shots 2 = .ok (.iconst 0, 1) := by decide +kernel
theorem dX8_shots_3 : decode cX8_shots 3 = .ok (.istore_n 2, 1) := by decide +kernel
theorem dX8_shots_4 : decode cX8_shots 4 = .ok (.iload_n 2, 1) := by decide +kernel
theorem dX8_shots_5 : decode cX8_shots 5 = .ok (.iconst 2, 1) := by decide +kernel
theorem dX8_shots_6 : decode cX8_shots 6 = .ok (.if_icmp .ge 38, 3) := by decide +kernel
theorem dX8_shots_9 : decode cX8_shots 9 = .ok (.aload_n 0, 1) := by decide +kernel
theorem dX8_shots_10 : decode cX8_shots 10 = .ok (.iload_n 2, 1) := by decide +kernel
theorem dX8_shots_11 : decode cX8_shots 11 = .ok (.invokestatic 85, 3) := by decide +kernel
theorem dX8_shots_14 : decode cX8_shots 14 = .ok (.istore_n 3, 1) := by decide +kernel
theorem dX8_shots_15 : decode cX8_shots 15 = .ok (.iload_n 3, 1) := by decide +kernel
theorem dX8_shots_16 : decode cX8_shots 16 = .ok (.bipush (-5), 2) := by decide +kernel
theorem dX8_shots_18 : decode cX8_shots 18 = .ok (.if_icmp .eq 20, 3) := by decide +kernel
theorem dX8_shots_21 : decode cX8_shots 21 = .ok (.iinc 1 1, 3) := by decide +kernel
theorem dX8_shots_24 : decode cX8_shots 24 = .ok (.aload_n 0, 1) := by decide +kernel
theorem dX8_shots_25 : decode cX8_shots 25 = .ok (.iconst 2, 1) := by decide +kernel
theorem dX8_shots_26 : decode cX8_shots 26 = .ok (.iaload, 1) := by decide +kernel
theorem dX8_shots_27 : decode cX8_shots 27 = .ok (.bipush 80, 2) := by decide +kernel
theorem dX8_shots_29 : decode cX8_shots 29 = .ok (.if_icmp .ge 9, 3) := by decide +kernel
theorem dX8_shots_32 : decode cX8_shots 32 = .ok (.aload_n 0, 1) := by decide +kernel
theorem dX8_shots_33 : decode cX8_shots 33 = .ok (.iload_n 3, 1) := by decide +kernel
theorem dX8_shots_34 : decode cX8_shots 34 = .ok (.iload_n 2, 1) := by decide +kernel
theorem dX8_shots_35 : decode cX8_shots 35 = .ok (.invokestatic 88, 3) := by decide +kernel
theorem dX8_shots_38 : decode cX8_shots 38 = .ok (.iinc 2 1, 3) := by decide +kernel
theorem dX8_shots_41 : decode cX8_shots 41 = .ok (.goto (-37), 3) := by decide +kernel
theorem dX8_shots_44 : decode cX8_shots 44 = .ok (.aload_n 0, 1) := by decide +kernel
theorem dX8_shots_45 : decode cX8_shots 45 = .ok (.iconst 3, 1) := by decide +kernel
theorem dX8_shots_46 : decode cX8_shots 46 = .ok (.dup2, 1) := by decide +kernel
theorem dX8_shots_47 : decode cX8_shots 47 = .ok (.iaload, 1) := by decide +kernel
theorem dX8_shots_48 : decode cX8_shots 48 = .ok (.iconst 1, 1) := by decide +kernel
theorem dX8_shots_49 : decode cX8_shots 49 = .ok (.iadd, 1) := by decide +kernel
theorem dX8_shots_50 : decode cX8_shots 50 = .ok (.iastore, 1) := by decide +kernel
theorem dX8_shots_51 : decode cX8_shots 51 = .ok (.iload_n 1, 1) := by decide +kernel
theorem dX8_shots_52 : decode cX8_shots 52 = .ok (.ireturn, 1) := by decide +kernel
set_option maxRecDepth 20000 in
theorem ggX8_takes_X8_isGood : GoodIn wsX8_takes wsX8_isGood := goodIn_r _ [4] (by decide +kernel) (by decide +kernel)
set_option maxRecDepth 20000 in
theorem gX8_takes_X8_isGood : GoodIn wsX8_takes (va_wsS RX8 92 yX8_isGood wsX8_isGood) := goodIn_app (goodIn_of _ (by decide +kernel)) ggX8_takes_X8_isGood
theorem dX8_takes_0 : decode cX8_takes 0 = .ok (.sipush 132, 3) := by decide +kernel
theorem dX8_takes_3 : decode cX8_takes 3 = .ok (.iconst 5, 1) := by decide +kernel
theorem dX8_takes_4 : decode cX8_takes 4 = .ok (.aload_n 0, 1) := by decide +kernel
theorem dX8_takes_5 : decode cX8_takes 5 = .ok (.iconst 2, 1) := by decide +kernel
theorem dX8_takes_6 : decode cX8_takes 6 = .ok (.iaload, 1) := by decide +kernel
theorem dX8_takes_7 : decode cX8_takes 7 = .ok (.imul, 1) := by decide +kernel
theorem dX8_takes_8 : decode cX8_takes 8 = .ok (.iadd, 1) := by decide +kernel
theorem dX8_takes_9 : decode cX8_takes 9 = .ok (.istore_n 3, 1) := by decide +kernel
theorem dX8_takes_10 : decode cX8_takes 10 = .ok (.aload_n 0, 1) := by decide +kernel
theorem dX8_takes_11 : decode cX8_takes 11 = .ok (.iload_n 2, 1) := by decide +kernel
theorem dX8_takes_12 : decode cX8_takes 12 = .ok (.ifCond .ne 9, 3) := by decide +kernel
theorem dX8_takes_15 : decode cX8_takes 15 = .ok (.aload_n 0, 1) := by decide +kernel
theorem dX8_takes_16 : decode cX8_takes 16 = .ok (.iconst 1, 1) := by decide +kernel
theorem dX8_takes_17 : decode cX8_takes 17 = .ok (.iaload, 1) := by decide +kernel
theorem dX8_takes_18 : decode cX8_takes 18 = .ok (.goto 10, 3) := by decide +kernel
theorem dX8_takes_21 : decode cX8_takes 21 = .ok (.aload_n 0, 1) := by decide +kernel
theorem dX8_takes_22 : decode cX8_takes 22 = .ok (.iconst 0, 1) := by decide +kernel
theorem dX8_takes_23 : decode cX8_takes 23 = .ok (.iaload, 1) := by decide +kernel
theorem dX8_takes_24 : decode cX8_takes 24 = .ok (.aload_n 0, 1) := by decide +kernel
theorem dX8_takes_25 : decode cX8_takes 25 = .ok (.iconst 1, 1) := by decide +kernel
theorem dX8_takes_26 : decode cX8_takes 26 = .ok (.iaload, 1) := by decide +kernel
theorem dX8_takes_27 : decode cX8_takes 27 = .ok (.isub, 1) := by decide +kernel
theorem dX8_takes_28 : decode cX8_takes 28 = .ok (.invokestatic 92, 3) := by decide +kernel
theorem dX8_takes_31 : decode cX8_takes 31 = .ok (.istore 4, 2) := by decide +kernel
theorem dX8_takes_33 : decode cX8_takes 33 = .ok (.aload_n 0, 1) := by decide +kernel
theorem dX8_takes_34 : decode cX8_takes 34 = .ok (.bipush 72, 2) := by decide +kernel
theorem dX8_takes_36 : decode cX8_takes 36 = .ok (.iload_n 1, 1) := by decide +kernel
theorem dX8_takes_37 : decode cX8_takes 37 = .ok (.iadd, 1) := by decide +kernel
theorem dX8_takes_38 : decode cX8_takes 38 = .ok (.iaload, 1) := by decide +kernel
theorem dX8_takes_39 : decode cX8_takes 39 = .ok (.istore 5, 2) := by decide +kernel
theorem dX8_takes_41 : decode cX8_takes 41 = .ok (.aload_n 0, 1) := by decide +kernel
theorem dX8_takes_42 : decode cX8_takes 42 = .ok (.iload_n 3, 1) := by decide +kernel
theorem dX8_takes_43 : decode cX8_takes 43 = .ok (.iconst 0, 1) := by decide +kernel
theorem dX8_takes_44 : decode cX8_takes 44 = .ok (.iadd, 1) := by decide +kernel
theorem dX8_takes_45 : decode cX8_takes 45 = .ok (.iload_n 1, 1) := by decide +kernel
theorem dX8_takes_46 : decode cX8_takes 46 = .ok (.iastore, 1) := by decide +kernel
theorem dX8_takes_47 : decode cX8_takes 47 = .ok (.aload_n 0, 1) := by decide +kernel
theorem dX8_takes_48 : decode cX8_takes 48 = .ok (.iload_n 3, 1) := by decide +kernel
theorem dX8_takes_49 : decode cX8_takes 49 = .ok (.iconst 1, 1) := by decide +kernel
theorem dX8_takes_50 : decode cX8_takes 50 = .ok (.iadd, 1) := by decide +kernel
theorem dX8_takes_51 : decode cX8_takes 51 = .ok (.iload 5, 2) := by decide +kernel
theorem dX8_takes_53 : decode cX8_takes 53 = .ok (.bipush (-5), 2) := by decide +kernel
theorem dX8_takes_55 : decode cX8_takes 55 = .ok (.if_icmp .eq 8, 3) := by decide +kernel
theorem dX8_takes_58 : decode cX8_takes 58 = .ok (.iload 4, 2) := by decide +kernel
theorem dX8_takes_60 : decode cX8_takes 60 = .ok (.ifCond .eq 8, 3) := by decide +kernel
theorem dX8_takes_63 : decode cX8_takes 63 = .ok (.iload 5, 2) := by decide +kernel
theorem dX8_takes_65 : decode cX8_takes 65 = .ok (.goto 8, 3) := by decide +kernel
theorem dX8_takes_68 : decode cX8_takes 68 = .ok (.iload 5, 2) := by decide +kernel
theorem dX8_takes_70 : decode cX8_takes 70 = .ok (.bipush 10, 2) := by decide +kernel
theorem dX8_takes_72 : decode cX8_takes 72 = .ok (.idiv, 1) := by decide +kernel
theorem dX8_takes_73 : decode cX8_takes 73 = .ok (.iastore, 1) := by decide +kernel
theorem dX8_takes_74 : decode cX8_takes 74 = .ok (.aload_n 0, 1) := by decide +kernel
theorem dX8_takes_75 : decode cX8_takes 75 = .ok (.iload_n 3, 1) := by decide +kernel
theorem dX8_takes_76 : decode cX8_takes 76 = .ok (.iconst 2, 1) := by decide +kernel
theorem dX8_takes_77 : decode cX8_takes 77 = .ok (.iadd, 1) := by decide +kernel
theorem dX8_takes_78 : decode cX8_takes 78 = .ok (.iload 4, 2) := by decide +kernel
theorem dX8_takes_80 : decode cX8_takes 80 = .ok (.ifCond .eq 7, 3) := by decide +kernel
theorem dX8_takes_83 : decode cX8_takes 83 = .ok (.iconst 1, 1) := by decide +kernel
theorem dX8_takes_84 : decode cX8_takes 84 = .ok (.goto 4, 3) := by decide +kernel
theorem dX8_takes_87 : decode cX8_takes 87 = .ok (.iconst 0, 1) := by decide +kernel
theorem dX8_takes_88 : decode cX8_takes 88 = .ok (.iastore, 1) := by decide +kernel
theorem dX8_takes_89 : decode cX8_takes 89 = .ok (.aload_n 0, 1) := by decide +kernel
theorem dX8_takes_90 : decode cX8_takes 90 = .ok (.iload_n 3, 1) := by decide +kernel
theorem dX8_takes_91 : decode cX8_takes 91 = .ok (.iconst 3, 1) := by decide +kernel
theorem dX8_takes_92 : decode cX8_takes 92 = .ok (.iadd, 1) := by decide +kernel
theorem dX8_takes_93 : decode cX8_takes 93 = .ok (.aload_n 0, 1) := by decide +kernel
theorem dX8_takes_94 : decode cX8_takes 94 = .ok (.iconst 3, 1) := by decide +kernel
theorem dX8_takes_95 : decode cX8_takes 95 = .ok (.iaload, 1) := by decide +kernel
theorem dX8_takes_96 : decode cX8_takes 96 = .ok (.iastore, 1) := by decide +kernel
theorem dX8_takes_97 : decode cX8_takes 97 = .ok (.aload_n 0, 1) := by decide +kernel
theorem dX8_takes_98 : decode cX8_takes 98 = .ok (.iload_n 3, 1) := by decide +kernel
theorem dX8_takes_99 : decode cX8_takes 99 = .ok (.iconst 4, 1) := by decide +kernel
theorem dX8_takes_100 : decode cX8_takes 100 = .ok (.iadd, 1) := by decide +kernel
theorem dX8_takes_101 : decode cX8_takes 101 = .ok (.iload_n 2, 1) := by decide +kernel
theorem dX8_takes_102 : decode cX8_takes 102 = .ok (.iastore, 1) := by decide +kernel
theorem dX8_takes_103 : decode cX8_takes 103 = .ok (.aload_n 0, 1) := by decide +kernel
theorem dX8_takes_104 : decode cX8_takes 104 = .ok (.iconst 2, 1) := by decide +kernel
theorem dX8_takes_105 : decode cX8_takes 105 = .ok (.dup2, 1) := by decide +kernel
theorem dX8_takes_106 : decode cX8_takes 106 = .ok (.iaload, 1) := by decide +kernel
theorem dX8_takes_107 : decode cX8_takes 107 = .ok (.iconst 1, 1) := by decide +kernel
theorem dX8_takes_108 : decode cX8_takes 108 = .ok (.iadd, 1) := by decide +kernel
theorem dX8_takes_109 : decode cX8_takes 109 = .ok (.iastore, 1) := by decide +kernel
theorem dX8_takes_110 : decode cX8_takes 110 = .ok (.return_, 1) := by decide +kernel
set_option maxRecDepth 20000 in
theorem ggX8_shoot_X8_lays : GoodIn wsX8_shoot wsX8_lays := goodIn_r _ [6] (by decide +kernel) (by decide +kernel)
set_option maxRecDepth 20000 in
theorem gX8_shoot_X8_lays : GoodIn wsX8_shoot (va_wsS RX8 39 yX8_lays wsX8_lays) := goodIn_app (goodIn_of _ (by decide +kernel)) ggX8_shoot_X8_lays
set_option maxRecDepth 20000 in
theorem ggX8_shoot_X8_shots : GoodIn wsX8_shoot wsX8_shots := goodIn_r _ [9, 10, 11, 5, 12, 13, 14, 15, 16, 17, 18] (by decide +kernel) (by decide +kernel)
set_option maxRecDepth 20000 in
theorem gX8_shoot_X8_shots : GoodIn wsX8_shoot (va_wsS RX8 96 yX8_shots wsX8_shots) := goodIn_app (goodIn_of _ (by decide +kernel)) ggX8_shoot_X8_shots
set_option maxRecDepth 20000 in
theorem ggX8_shoot_X8_records : GoodIn wsX8_shoot wsX8_records := goodIn_r _ [22, 23, 24, 3, 4, 5, 6, 25, 26, 27, 28, 29, 30, 31, 32, 33, 34, 35, 36, 37] (by decide +kernel) (by decide +kernel)
set_option maxRecDepth 20000 in
theorem gX8_shoot_X8_records : GoodIn wsX8_shoot (wsV RX8 47 RX8 yX8_records wsX8_records) := goodIn_app (goodIn_of _ (by decide +kernel)) ggX8_shoot_X8_records
theorem dX8_shoot_0 : decode cX8_shoot 0 = .ok (.aload_n 0, 1) := by decide +kernel
theorem dX8_shoot_1 : decode cX8_shoot 1 = .ok (.getfield 7, 3) := by decide +kernel
theorem dX8_shoot_4 : decode cX8_shoot 4 = .ok (.iconst 0, 1) := by decide +kernel
theorem dX8_shoot_5 : decode cX8_shoot 5 = .ok (.iaload, 1) := by decide +kernel
theorem dX8_shoot_6 : decode cX8_shoot 6 = .ok (.ifCond .ne 6, 3) := by decide +kernel
theorem dX8_shoot_9 : decode cX8_shoot 9 = .ok (.bipush (-4), 2) := by decide +kernel
theorem dX8_shoot_11 : decode cX8_shoot 11 = .ok (.ireturn, 1) := by decide +kernel
theorem dX8_shoot_12 : decode cX8_shoot 12 = .ok (.aload_n 0, 1) := by decide +kernel
theorem dX8_shoot_13 : decode cX8_shoot 13 = .ok (.getfield 7, 3) := by decide +kernel
theorem dX8_shoot_16 : decode cX8_shoot 16 = .ok (.iconst 0, 1) := by decide +kernel
theorem dX8_shoot_17 : decode cX8_shoot 17 = .ok (.aload_n 0, 1) := by decide +kernel
theorem dX8_shoot_18 : decode cX8_shoot 18 = .ok (.getfield 13, 3) := by decide +kernel
theorem dX8_shoot_21 : decode cX8_shoot 21 = .ok (.iconst 0, 1) := by decide +kernel
theorem dX8_shoot_22 : decode cX8_shoot 22 = .ok (.invokestatic 39, 3) := by decide +kernel
theorem dX8_shoot_25 : decode cX8_shoot 25 = .ok (.aload_n 0, 1) := by decide +kernel
theorem dX8_shoot_26 : decode cX8_shoot 26 = .ok (.getfield 13, 3) := by decide +kernel
theorem dX8_shoot_29 : decode cX8_shoot 29 = .ok (.invokestatic 96, 3) := by decide +kernel
theorem dX8_shoot_32 : decode cX8_shoot 32 = .ok (.istore_n 1, 1) := by decide +kernel
theorem dX8_shoot_33 : decode cX8_shoot 33 = .ok (.aload_n 0, 1) := by decide +kernel
theorem dX8_shoot_34 : decode cX8_shoot 34 = .ok (.getfield 7, 3) := by decide +kernel
theorem dX8_shoot_37 : decode cX8_shoot 37 = .ok (.iconst 2, 1) := by decide +kernel
theorem dX8_shoot_38 : decode cX8_shoot 38 = .ok (.iaload, 1) := by decide +kernel
theorem dX8_shoot_39 : decode cX8_shoot 39 = .ok (.iload_n 1, 1) := by decide +kernel
theorem dX8_shoot_40 : decode cX8_shoot 40 = .ok (.iadd, 1) := by decide +kernel
theorem dX8_shoot_41 : decode cX8_shoot 41 = .ok (.bipush 80, 2) := by decide +kernel
theorem dX8_shoot_43 : decode cX8_shoot 43 = .ok (.if_icmp .le 6, 3) := by decide +kernel
theorem dX8_shoot_46 : decode cX8_shoot 46 = .ok (.bipush (-3), 2) := by decide +kernel
theorem dX8_shoot_48 : decode cX8_shoot 48 = .ok (.ireturn, 1) := by decide +kernel
theorem dX8_shoot_49 : decode cX8_shoot 49 = .ok (.aload_n 0, 1) := by decide +kernel
theorem dX8_shoot_50 : decode cX8_shoot 50 = .ok (.aload_n 0, 1) := by decide +kernel
theorem dX8_shoot_51 : decode cX8_shoot 51 = .ok (.getfield 7, 3) := by decide +kernel
theorem dX8_shoot_54 : decode cX8_shoot 54 = .ok (.invokevirtual 47, 3) := by decide +kernel
theorem dX8_shoot_57 : decode cX8_shoot 57 = .ok (.aload_n 0, 1) := by decide +kernel
theorem dX8_shoot_58 : decode cX8_shoot 58 = .ok (.getfield 13, 3) := by decide +kernel
theorem dX8_shoot_61 : decode cX8_shoot 61 = .ok (.iconst 0, 1) := by decide +kernel
theorem dX8_shoot_62 : decode cX8_shoot 62 = .ok (.aload_n 0, 1) := by decide +kernel
theorem dX8_shoot_63 : decode cX8_shoot 63 = .ok (.getfield 7, 3) := by decide +kernel
theorem dX8_shoot_66 : decode cX8_shoot 66 = .ok (.iconst 0, 1) := by decide +kernel
theorem dX8_shoot_67 : decode cX8_shoot 67 = .ok (.invokestatic 39, 3) := by decide +kernel
theorem dX8_shoot_70 : decode cX8_shoot 70 = .ok (.iload_n 1, 1) := by decide +kernel
theorem dX8_shoot_71 : decode cX8_shoot 71 = .ok (.ireturn, 1) := by decide +kernel
set_option maxRecDepth 20000 in
theorem ggX8_scan_X8_in : GoodIn wsX8_scan wsX8_in := goodIn_r _ [6] (by decide +kernel) (by decide +kernel)
set_option maxRecDepth 20000 in
theorem gX8_scan_X8_in : GoodIn wsX8_scan (va_wsS RX8 61 yX8_in wsX8_in) := goodIn_app (goodIn_of _ (by decide +kernel)) ggX8_scan_X8_in
set_option maxRecDepth 20000 in
theorem ggX8_scan_X8_lays : GoodIn wsX8_scan wsX8_lays := goodIn_r _ [9] (by decide +kernel) (by decide +kernel)
set_option maxRecDepth 20000 in
theorem gX8_scan_X8_lays : GoodIn wsX8_scan (va_wsS RX8 39 yX8_lays wsX8_lays) := goodIn_app (goodIn_of _ (by decide +kernel)) ggX8_scan_X8_lays
set_option maxRecDepth 20000 in
theorem ggX8_scan_X8_shots : GoodIn wsX8_scan wsX8_shots := goodIn_r _ [12, 13, 14, 5, 15, 16, 17, 18, 19, 20, 21] (by decide +kernel) (by decide +kernel)
set_option maxRecDepth 20000 in
theorem gX8_scan_X8_shots : GoodIn wsX8_scan (va_wsS RX8 96 yX8_shots wsX8_shots) := goodIn_app (goodIn_of _ (by decide +kernel)) ggX8_scan_X8_shots
set_option maxRecDepth 20000 in
theorem ggX8_scan_X8_turns : GoodIn wsX8_scan wsX8_turns := goodIn_r _ [24, 25, 26, 5, 27, 28, 29, 30] (by decide +kernel) (by decide +kernel)
set_option maxRecDepth 20000 in
theorem gX8_scan_X8_turns : GoodIn wsX8_scan (va_wsS RX8 81 yX8_turns wsX8_turns) := goodIn_app (goodIn_of _ (by decide +kernel)) ggX8_scan_X8_turns
set_option maxRecDepth 20000 in
theorem ggX8_scan_X8_records : GoodIn wsX8_scan wsX8_records := goodIn_r _ [34, 35, 36, 7, 8, 5, 9, 37, 38, 39, 40, 41, 42, 43, 44, 45, 46, 47, 48, 49] (by decide +kernel) (by decide +kernel)
set_option maxRecDepth 20000 in
theorem gX8_scan_X8_records : GoodIn wsX8_scan (wsV RX8 47 RX8 yX8_records wsX8_records) := goodIn_app (goodIn_of _ (by decide +kernel)) ggX8_scan_X8_records
theorem dX8_scan_0 : decode cX8_scan 0 = .ok (.iload_n 1, 1) := by decide +kernel
theorem dX8_scan_1 : decode cX8_scan 1 = .ok (.iconst 1, 1) := by decide +kernel
theorem dX8_scan_2 : decode cX8_scan 2 = .ok (.bipush 60, 2) := by decide +kernel
theorem dX8_scan_4 : decode cX8_scan 4 = .ok (.invokestatic 61, 3) := by decide +kernel
theorem dX8_scan_7 : decode cX8_scan 7 = .ok (.ifCond .ne 6, 3) := by decide +kernel
theorem dX8_scan_10 : decode cX8_scan 10 = .ok (.bipush (-2), 2) := by decide +kernel
theorem dX8_scan_12 : decode cX8_scan 12 = .ok (.ireturn, 1) := by decide +kernel
theorem dX8_scan_13 : decode cX8_scan 13 = .ok (.aload_n 0, 1) := by decide +kernel
theorem dX8_scan_14 : decode cX8_scan 14 = .ok (.getfield 7, 3) := by decide +kernel
theorem dX8_scan_17 : decode cX8_scan 17 = .ok (.iconst 0, 1) := by decide +kernel
theorem dX8_scan_18 : decode cX8_scan 18 = .ok (.iaload, 1) := by decide +kernel
theorem dX8_scan_19 : decode cX8_scan 19 = .ok (.ifCond .ne 6, 3) := by decide +kernel
theorem dX8_scan_22 : decode cX8_scan 22 = .ok (.bipush (-4), 2) := by decide +kernel
theorem dX8_scan_24 : decode cX8_scan 24 = .ok (.ireturn, 1) := by decide +kernel
theorem dX8_scan_25 : decode cX8_scan 25 = .ok (.aload_n 0, 1) := by decide +kernel
theorem dX8_scan_26 : decode cX8_scan 26 = .ok (.getfield 7, 3) := by decide +kernel
theorem dX8_scan_29 : decode cX8_scan 29 = .ok (.iconst 0, 1) := by decide +kernel
theorem dX8_scan_30 : decode cX8_scan 30 = .ok (.aload_n 0, 1) := by decide +kernel
theorem dX8_scan_31 : decode cX8_scan 31 = .ok (.getfield 13, 3) := by decide +kernel
theorem dX8_scan_34 : decode cX8_scan 34 = .ok (.iconst 0, 1) := by decide +kernel
theorem dX8_scan_35 : decode cX8_scan 35 = .ok (.invokestatic 39, 3) := by decide +kernel
theorem dX8_scan_38 : decode cX8_scan 38 = .ok (.iconst 0, 1) := by decide +kernel
theorem dX8_scan_39 : decode cX8_scan 39 = .ok (.istore_n 2, 1) := by decide +kernel
theorem dX8_scan_40 : decode cX8_scan 40 = .ok (.iconst 0, 1) := by decide +kernel
theorem dX8_scan_41 : decode cX8_scan 41 = .ok (.istore_n 3, 1) := by decide +kernel
theorem dX8_scan_42 : decode cX8_scan 42 = .ok (.iconst 0, 1) := by decide +kernel
theorem dX8_scan_43 : decode cX8_scan 43 = .ok (.istore 4, 2) := by decide +kernel
theorem dX8_scan_45 : decode cX8_scan 45 = .ok (.iload 4, 2) := by decide +kernel
theorem dX8_scan_47 : decode cX8_scan 47 = .ok (.iload_n 1, 1) := by decide +kernel
theorem dX8_scan_48 : decode cX8_scan 48 = .ok (.if_icmp .ge 44, 3) := by decide +kernel
theorem dX8_scan_51 : decode cX8_scan 51 = .ok (.aload_n 0, 1) := by decide +kernel
theorem dX8_scan_52 : decode cX8_scan 52 = .ok (.getfield 13, 3) := by decide +kernel
theorem dX8_scan_55 : decode cX8_scan 55 = .ok (.iconst 1, 1) := by decide +kernel
theorem dX8_scan_56 : decode cX8_scan 56 = .ok (.iaload, 1) := by decide +kernel
theorem dX8_scan_57 : decode cX8_scan 57 = .ok (.aload_n 0, 1) := by decide +kernel
theorem dX8_scan_58 : decode cX8_scan 58 = .ok (.getfield 13, 3) := by decide +kernel
theorem dX8_scan_61 : decode cX8_scan 61 = .ok (.iconst 0, 1) := by decide +kernel
theorem dX8_scan_62 : decode cX8_scan 62 = .ok (.iaload, 1) := by decide +kernel
theorem dX8_scan_63 : decode cX8_scan 63 = .ok (.if_icmp .ge 29, 3) := by decide +kernel
theorem dX8_scan_66 : decode cX8_scan 66 = .ok (.iload_n 2, 1) := by decide +kernel
theorem dX8_scan_67 : decode cX8_scan 67 = .ok (.aload_n 0, 1) := by decide +kernel
theorem dX8_scan_68 : decode cX8_scan 68 = .ok (.getfield 13, 3) := by decide +kernel
theorem dX8_scan_71 : decode cX8_scan 71 = .ok (.invokestatic 96, 3) := by decide +kernel
theorem dX8_scan_74 : decode cX8_scan 74 = .ok (.iadd, 1) := by decide +kernel
theorem dX8_scan_75 : decode cX8_scan 75 = .ok (.istore_n 2, 1) := by decide +kernel
theorem dX8_scan_76 : decode cX8_scan 76 = .ok (.iload_n 3, 1) := by decide +kernel
theorem dX8_scan_77 : decode cX8_scan 77 = .ok (.aload_n 0, 1) := by decide +kernel
theorem dX8_scan_78 : decode cX8_scan 78 = .ok (.getfield 13, 3) := by decide +kernel
theorem dX8_scan_81 : decode cX8_scan 81 = .ok (.invokestatic 81, 3) := by decide +kernel
theorem dX8_scan_84 : decode cX8_scan 84 = .ok (.iadd, 1) := by decide +kernel
theorem dX8_scan_85 : decode cX8_scan 85 = .ok (.istore_n 3, 1) := by decide +kernel
theorem dX8_scan_86 : decode cX8_scan 86 = .ok (.iinc 4 1, 3) := by decide +kernel
theorem dX8_scan_89 : decode cX8_scan 89 = .ok (.goto (-44), 3) := by decide +kernel
theorem dX8_scan_92 : decode cX8_scan 92 = .ok (.iload_n 2, 1) := by decide +kernel
theorem dX8_scan_93 : decode cX8_scan 93 = .ok (.aload_n 0, 1) := by decide +kernel
theorem dX8_scan_94 : decode cX8_scan 94 = .ok (.getfield 13, 3) := by decide +kernel
theorem dX8_scan_97 : decode cX8_scan 97 = .ok (.iconst 1, 1) := by decide +kernel
theorem dX8_scan_98 : decode cX8_scan 98 = .ok (.iaload, 1) := by decide +kernel
theorem dX8_scan_99 : decode cX8_scan 99 = .ok (.aload_n 0, 1) := by decide +kernel
theorem dX8_scan_100 : decode cX8_scan 100 = .ok (.getfield 13, 3) := by decide +kernel
theorem dX8_scan_103 : decode cX8_scan 103 = .ok (.iconst 0, 1) := by decide +kernel
theorem dX8_scan_104 : decode cX8_scan 104 = .ok (.iaload, 1) := by decide +kernel
theorem dX8_scan_105 : decode cX8_scan 105 = .ok (.if_icmp .ne 17, 3) := by decide +kernel
theorem dX8_scan_108 : decode cX8_scan 108 = .ok (.iload_n 3, 1) := by decide +kernel
theorem dX8_scan_109 : decode cX8_scan 109 = .ok (.ifCond .lt 13, 3) := by decide +kernel
theorem dX8_scan_112 : decode cX8_scan 112 = .ok (.aload_n 0, 1) := by decide +kernel
theorem dX8_scan_113 : decode cX8_scan 113 = .ok (.getfield 13, 3) := by decide +kernel
theorem dX8_scan_116 : decode cX8_scan 116 = .ok (.invokestatic 96, 3) := by decide +kernel
theorem dX8_scan_119 : decode cX8_scan 119 = .ok (.goto 4, 3) := by decide +kernel
theorem dX8_scan_122 : decode cX8_scan 122 = .ok (.iconst 0, 1) := by decide +kernel
theorem dX8_scan_123 : decode cX8_scan 123 = .ok (.iadd, 1) := by decide +kernel
theorem dX8_scan_124 : decode cX8_scan 124 = .ok (.istore_n 2, 1) := by decide +kernel
theorem dX8_scan_125 : decode cX8_scan 125 = .ok (.aload_n 0, 1) := by decide +kernel
theorem dX8_scan_126 : decode cX8_scan 126 = .ok (.getfield 7, 3) := by decide +kernel
theorem dX8_scan_129 : decode cX8_scan 129 = .ok (.iconst 2, 1) := by decide +kernel
theorem dX8_scan_130 : decode cX8_scan 130 = .ok (.iaload, 1) := by decide +kernel
theorem dX8_scan_131 : decode cX8_scan 131 = .ok (.iload_n 2, 1) := by decide +kernel
theorem dX8_scan_132 : decode cX8_scan 132 = .ok (.iadd, 1) := by decide +kernel
theorem dX8_scan_133 : decode cX8_scan 133 = .ok (.bipush 80, 2) := by decide +kernel
theorem dX8_scan_135 : decode cX8_scan 135 = .ok (.if_icmp .le 6, 3) := by decide +kernel
theorem dX8_scan_138 : decode cX8_scan 138 = .ok (.bipush (-3), 2) := by decide +kernel
theorem dX8_scan_140 : decode cX8_scan 140 = .ok (.ireturn, 1) := by decide +kernel
theorem dX8_scan_141 : decode cX8_scan 141 = .ok (.aload_n 0, 1) := by decide +kernel
theorem dX8_scan_142 : decode cX8_scan 142 = .ok (.aload_n 0, 1) := by decide +kernel
theorem dX8_scan_143 : decode cX8_scan 143 = .ok (.getfield 7, 3) := by decide +kernel
theorem dX8_scan_146 : decode cX8_scan 146 = .ok (.invokevirtual 47, 3) := by decide +kernel
theorem dX8_scan_149 : decode cX8_scan 149 = .ok (.aload_n 0, 1) := by decide +kernel
theorem dX8_scan_150 : decode cX8_scan 150 = .ok (.getfield 13, 3) := by decide +kernel
theorem dX8_scan_153 : decode cX8_scan 153 = .ok (.iconst 0, 1) := by decide +kernel
theorem dX8_scan_154 : decode cX8_scan 154 = .ok (.aload_n 0, 1) := by decide +kernel
theorem dX8_scan_155 : decode cX8_scan 155 = .ok (.getfield 7, 3) := by decide +kernel
theorem dX8_scan_158 : decode cX8_scan 158 = .ok (.iconst 0, 1) := by decide +kernel
theorem dX8_scan_159 : decode cX8_scan 159 = .ok (.invokestatic 39, 3) := by decide +kernel
theorem dX8_scan_162 : decode cX8_scan 162 = .ok (.iload_n 2, 1) := by decide +kernel
theorem dX8_scan_163 : decode cX8_scan 163 = .ok (.ireturn, 1) := by decide +kernel
set_option maxRecDepth 20000 in
theorem ggX8_isPicture_X8_in : GoodIn wsX8_isPicture wsX8_in := goodIn_r _ [5] (by decide +kernel) (by decide +kernel)
set_option maxRecDepth 20000 in
theorem gX8_isPicture_X8_in : GoodIn wsX8_isPicture (va_wsS RX8 61 yX8_in wsX8_in) := goodIn_app (goodIn_of _ (by decide +kernel)) ggX8_isPicture_X8_in
theorem dX8_isPicture_0 : decode cX8_isPicture 0 = .ok (.iload_n 1, 1) := by decide +kernel
theorem dX8_isPicture_1 : decode cX8_isPicture 1 = .ok (.iconst 0, 1) := by decide +kernel
theorem dX8_isPicture_2 : decode cX8_isPicture 2 = .ok (.aload_n 0, 1) := by decide +kernel
theorem dX8_isPicture_3 : decode cX8_isPicture 3 = .ok (.getfield 7, 3) := by decide +kernel
theorem dX8_isPicture_6 : decode cX8_isPicture 6 = .ok (.iconst 2, 1) := by decide +kernel
theorem dX8_isPicture_7 : decode cX8_isPicture 7 = .ok (.iaload, 1) := by decide +kernel
theorem dX8_isPicture_8 : decode cX8_isPicture 8 = .ok (.iconst 1, 1) := by decide +kernel
theorem dX8_isPicture_9 : decode cX8_isPicture 9 = .ok (.isub, 1) := by decide +kernel
theorem dX8_isPicture_10 : decode cX8_isPicture 10 = .ok (.invokestatic 61, 3) := by decide +kernel
theorem dX8_isPicture_13 : decode cX8_isPicture 13 = .ok (.ireturn, 1) := by decide +kernel
set_option maxRecDepth 20000 in
theorem ggX8_throwAway_X8_isPicture : GoodIn wsX8_throwAway wsX8_isPicture := goodIn_r _ [6, 1, 7, 8, 5, 9, 19, 20, 21, 22, 23, 24, 25, 26, 27, 28, 29, 30, 31] (by decide +kernel) (by decide +kernel)
set_option maxRecDepth 20000 in
theorem gX8_throwAway_X8_isPicture : GoodIn wsX8_throwAway (wsV RX8 99 RX8 yX8_isPicture wsX8_isPicture) := goodIn_app (goodIn_of _ (by decide +kernel)) ggX8_throwAway_X8_isPicture
set_option maxRecDepth 20000 in
theorem ggX8_throwAway_X8_records : GoodIn wsX8_throwAway wsX8_records := goodIn_r _ [13, 14, 15, 16, 17, 5, 18, 19, 20, 21, 22, 23, 24, 25, 26, 27, 28, 29, 30, 31] (by decide +kernel) (by decide +kernel)
set_option maxRecDepth 20000 in
theorem gX8_throwAway_X8_records : GoodIn wsX8_throwAway (wsV RX8 47 RX8 yX8_records wsX8_records) := goodIn_app (goodIn_of _ (by decide +kernel)) ggX8_throwAway_X8_records
theorem dX8_throwAway_0 : decode cX8_throwAway 0 = .ok (.aload_n 0, 1) := by decide +kernel
theorem dX8_throwAway_1 : decode cX8_throwAway 1 = .ok (.iload_n 1, 1) := by decide +kernel
theorem dX8_throwAway_2 : decode cX8_throwAway 2 = .ok (.invokevirtual 99, 3) := by decide +kernel
theorem dX8_throwAway_5 : decode cX8_throwAway 5 = .ok (.ifCond .ne 5, 3) := by decide +kernel
theorem dX8_throwAway_8 : decode cX8_throwAway 8 = .ok (.iconst (-1), 1) := by decide +kernel
theorem dX8_throwAway_9 : decode cX8_throwAway 9 = .ok (.ireturn, 1) := by decide +kernel
theorem dX8_throwAway_10 : decode cX8_throwAway 10 = .ok (.aload_n 0, 1) := by decide +kernel
theorem dX8_throwAway_11 : decode cX8_throwAway 11 = .ok (.aload_n 0, 1) := by decide +kernel
theorem dX8_throwAway_12 : decode cX8_throwAway 12 = .ok (.getfield 7, 3) := by decide +kernel
theorem dX8_throwAway_15 : decode cX8_throwAway 15 = .ok (.invokevirtual 47, 3) := by decide +kernel
theorem dX8_throwAway_18 : decode cX8_throwAway 18 = .ok (.aload_n 0, 1) := by decide +kernel
theorem dX8_throwAway_19 : decode cX8_throwAway 19 = .ok (.getfield 7, 3) := by decide +kernel
theorem dX8_throwAway_22 : decode cX8_throwAway 22 = .ok (.iconst 2, 1) := by decide +kernel
theorem dX8_throwAway_23 : decode cX8_throwAway 23 = .ok (.dup2, 1) := by decide +kernel
theorem dX8_throwAway_24 : decode cX8_throwAway 24 = .ok (.iaload, 1) := by decide +kernel
theorem dX8_throwAway_25 : decode cX8_throwAway 25 = .ok (.iconst 1, 1) := by decide +kernel
theorem dX8_throwAway_26 : decode cX8_throwAway 26 = .ok (.isub, 1) := by decide +kernel
theorem dX8_throwAway_27 : decode cX8_throwAway 27 = .ok (.iastore, 1) := by decide +kernel
theorem dX8_throwAway_28 : decode cX8_throwAway 28 = .ok (.iconst 5, 1) := by decide +kernel
theorem dX8_throwAway_29 : decode cX8_throwAway 29 = .ok (.iload_n 1, 1) := by decide +kernel
theorem dX8_throwAway_30 : decode cX8_throwAway 30 = .ok (.imul, 1) := by decide +kernel
theorem dX8_throwAway_31 : decode cX8_throwAway 31 = .ok (.istore_n 2, 1) := by decide +kernel
theorem dX8_throwAway_32 : decode cX8_throwAway 32 = .ok (.iload_n 2, 1) := by decide +kernel
theorem dX8_throwAway_33 : decode cX8_throwAway 33 = .ok (.iconst 5, 1) := by decide +kernel
theorem dX8_throwAway_34 : decode cX8_throwAway 34 = .ok (.aload_n 0, 1) := by decide +kernel
theorem dX8_throwAway_35 : decode cX8_throwAway 35 = .ok (.getfield 7, 3) := by decide +kernel
theorem dX8_throwAway_38 : decode cX8_throwAway 38 = .ok (.iconst 2, 1) := by decide +kernel
theorem dX8_throwAway_39 : decode cX8_throwAway 39 = .ok (.iaload, 1) := by decide +kernel
theorem dX8_throwAway_40 : decode cX8_throwAway 40 = .ok (.imul, 1) := by decide +kernel
theorem dX8_throwAway_41 : decode cX8_throwAway 41 = .ok (.if_icmp .ge 31, 3) := by decide +kernel
theorem dX8_throwAway_44 : decode cX8_throwAway 44 = .ok (.aload_n 0, 1) := by decide +kernel
theorem dX8_throwAway_45 : decode cX8_throwAway 45 = .ok (.getfield 7, 3) := by decide +kernel
theorem dX8_throwAway_48 : decode cX8_throwAway 48 = .ok (.sipush 132, 3) := by decide +kernel
theorem dX8_throwAway_51 : decode cX8_throwAway 51 = .ok (.iload_n 2, 1) := by decide +kernel
theorem dX8_throwAway_52 : decode cX8_throwAway 52 = .ok (.iadd, 1) := by decide +kernel
theorem dX8_throwAway_53 : decode cX8_throwAway 53 = .ok (.aload_n 0, 1) := by decide +kernel
theorem dX8_throwAway_54 : decode cX8_throwAway 54 = .ok (.getfield 7, 3) := by decide +kernel
theorem dX8_throwAway_57 : decode cX8_throwAway 57 = .ok (.sipush 132, 3) := by decide +kernel
theorem dX8_throwAway_60 : decode cX8_throwAway 60 = .ok (.iload_n 2, 1) := by decide +kernel
theorem dX8_throwAway_61 : decode cX8_throwAway 61 = .ok (.iadd, 1) := by decide +kernel
theorem dX8_throwAway_62 : decode cX8_throwAway 62 = .ok (.iconst 5, 1) := by decide +kernel
theorem dX8_throwAway_63 : decode cX8_throwAway 63 = .ok (.iadd, 1) := by decide +kernel
theorem dX8_throwAway_64 : decode cX8_throwAway 64 = .ok (.iaload, 1) := by decide +kernel
theorem dX8_throwAway_65 : decode cX8_throwAway 65 = .ok (.iastore, 1) := by decide +kernel
theorem dX8_throwAway_66 : decode cX8_throwAway 66 = .ok (.iinc 2 1, 3) := by decide +kernel
theorem dX8_throwAway_69 : decode cX8_throwAway 69 = .ok (.goto (-37), 3) := by decide +kernel
theorem dX8_throwAway_72 : decode cX8_throwAway 72 = .ok (.iconst 0, 1) := by decide +kernel
theorem dX8_throwAway_73 : decode cX8_throwAway 73 = .ok (.istore_n 2, 1) := by decide +kernel
theorem dX8_throwAway_74 : decode cX8_throwAway 74 = .ok (.iload_n 2, 1) := by decide +kernel
theorem dX8_throwAway_75 : decode cX8_throwAway 75 = .ok (.iconst 5, 1) := by decide +kernel
theorem dX8_throwAway_76 : decode cX8_throwAway 76 = .ok (.if_icmp .ge 29, 3) := by decide +kernel
theorem dX8_throwAway_79 : decode cX8_throwAway 79 = .ok (.aload_n 0, 1) := by decide +kernel
theorem dX8_throwAway_80 : decode cX8_throwAway 80 = .ok (.getfield 7, 3) := by decide +kernel
theorem dX8_throwAway_83 : decode cX8_throwAway 83 = .ok (.sipush 132, 3) := by decide +kernel
theorem dX8_throwAway_86 : decode cX8_throwAway 86 = .ok (.iconst 5, 1) := by decide +kernel
theorem dX8_throwAway_87 : decode cX8_throwAway 87 = .ok (.aload_n 0, 1) := by decide +kernel
theorem dX8_throwAway_88 : decode cX8_throwAway 88 = .ok (.getfield 7, 3) := by decide +kernel
theorem dX8_throwAway_91 : decode cX8_throwAway 91 = .ok (.iconst 2, 1) := by decide +kernel
theorem dX8_throwAway_92 : decode cX8_throwAway 92 = .ok (.iaload, 1) := by decide +kernel
theorem dX8_throwAway_93 : decode cX8_throwAway 93 = .ok (.imul, 1) := by decide +kernel
theorem dX8_throwAway_94 : decode cX8_throwAway 94 = .ok (.iadd, 1) := by decide +kernel
theorem dX8_throwAway_95 : decode cX8_throwAway 95 = .ok (.iload_n 2, 1) := by decide +kernel
theorem dX8_throwAway_96 : decode cX8_throwAway 96 = .ok (.iadd, 1) := by decide +kernel
theorem dX8_throwAway_97 : decode cX8_throwAway 97 = .ok (.iconst 0, 1) := by decide +kernel
theorem dX8_throwAway_98 : decode cX8_throwAway 98 = .ok (.iastore, 1) := by decide +kernel
theorem dX8_throwAway_99 : decode cX8_throwAway 99 = .ok (.iinc 2 1, 3) := by decide +kernel
theorem dX8_throwAway_102 : decode cX8_throwAway 102 = .ok (.goto (-28), 3) := by decide +kernel
theorem dX8_throwAway_105 : decode cX8_throwAway 105 = .ok (.aload_n 0, 1) := by decide +kernel
theorem dX8_throwAway_106 : decode cX8_throwAway 106 = .ok (.getfield 7, 3) := by decide +kernel
theorem dX8_throwAway_109 : decode cX8_throwAway 109 = .ok (.iconst 2, 1) := by decide +kernel
theorem dX8_throwAway_110 : decode cX8_throwAway 110 = .ok (.iaload, 1) := by decide +kernel
theorem dX8_throwAway_111 : decode cX8_throwAway 111 = .ok (.ireturn, 1) := by decide +kernel
set_option maxRecDepth 20000 in
theorem ggX8_becomes_X8_records : GoodIn wsX8_becomes wsX8_records := goodIn_r _ [6, 7, 8, 9, 10, 5, 11, 12, 13, 14, 15, 16, 17, 18, 19, 20, 21, 22, 23, 24] (by decide +kernel) (by decide +kernel)
set_option maxRecDepth 20000 in
theorem gX8_becomes_X8_records : GoodIn wsX8_becomes (wsV RX8 47 RX8 yX8_records wsX8_records) := goodIn_app (goodIn_of _ (by decide +kernel)) ggX8_becomes_X8_records
theorem dX8_becomes_0 : decode cX8_becomes 0 = .ok (.aload_n 0, 1) := by decide +kernel
theorem dX8_becomes_1 : decode cX8_becomes 1 = .ok (.getfield 7, 3) := by decide +kernel
theorem dX8_becomes_4 : decode cX8_becomes 4 = .ok (.iload_n 1, 1) := by decide +kernel
theorem dX8_becomes_5 : decode cX8_becomes 5 = .ok (.iaload, 1) := by decide +kernel
theorem dX8_becomes_6 : decode cX8_becomes 6 = .ok (.istore_n 3, 1) := by decide +kernel
theorem dX8_becomes_7 : decode cX8_becomes 7 = .ok (.iload_n 3, 1) := by decide +kernel
theorem dX8_becomes_8 : decode cX8_becomes 8 = .ok (.iload_n 2, 1) := by decide +kernel
theorem dX8_becomes_9 : decode cX8_becomes 9 = .ok (.if_icmp .ne 6, 3) := by decide +kernel
theorem dX8_becomes_12 : decode cX8_becomes 12 = .ok (.bipush (-5), 2) := by decide +kernel
theorem dX8_becomes_14 : decode cX8_becomes 14 = .ok (.ireturn, 1) := by decide +kernel
theorem dX8_becomes_15 : decode cX8_becomes 15 = .ok (.aload_n 0, 1) := by decide +kernel
theorem dX8_becomes_16 : decode cX8_becomes 16 = .ok (.aload_n 0, 1) := by decide +kernel
theorem dX8_becomes_17 : decode cX8_becomes 17 = .ok (.getfield 7, 3) := by decide +kernel
theorem dX8_becomes_20 : decode cX8_becomes 20 = .ok (.invokevirtual 47, 3) := by decide +kernel
theorem dX8_becomes_23 : decode cX8_becomes 23 = .ok (.aload_n 0, 1) := by decide +kernel
theorem dX8_becomes_24 : decode cX8_becomes 24 = .ok (.getfield 7, 3) := by decide +kernel
theorem dX8_becomes_27 : decode cX8_becomes 27 = .ok (.iload_n 1, 1) := by decide +kernel
theorem dX8_becomes_28 : decode cX8_becomes 28 = .ok (.iload_n 2, 1) := by decide +kernel
theorem dX8_becomes_29 : decode cX8_becomes 29 = .ok (.iastore, 1) := by decide +kernel
theorem dX8_becomes_30 : decode cX8_becomes 30 = .ok (.iload_n 3, 1) := by decide +kernel
theorem dX8_becomes_31 : decode cX8_becomes 31 = .ok (.ireturn, 1) := by decide +kernel
set_option maxRecDepth 20000 in
theorem ggX8_setSuction_X8_in : GoodIn wsX8_setSuction wsX8_in := goodIn_r _ [4] (by decide +kernel) (by decide +kernel)
set_option maxRecDepth 20000 in
theorem gX8_setSuction_X8_in : GoodIn wsX8_setSuction (va_wsS RX8 61 yX8_in wsX8_in) := goodIn_app (goodIn_of _ (by decide +kernel)) ggX8_setSuction_X8_in
set_option maxRecDepth 20000 in
theorem ggX8_setSuction_X8_becomes : GoodIn wsX8_setSuction wsX8_becomes := goodIn_r _ [8, 9, 10, 11, 12, 3, 13, 14, 15, 16, 17, 18, 19, 20, 21, 22, 23, 24, 25, 26, 27, 28, 29, 30, 31] (by decide +kernel) (by decide +kernel)
set_option maxRecDepth 20000 in
theorem gX8_setSuction_X8_becomes : GoodIn wsX8_setSuction (wsV RX8 102 RX8 yX8_becomes wsX8_becomes) := goodIn_app (goodIn_of _ (by decide +kernel)) ggX8_setSuction_X8_becomes
theorem dX8_setSuction_0 : decode cX8_setSuction 0 = .ok (.iload_n 1, 1) := by decide +kernel
theorem dX8_setSuction_1 : decode cX8_setSuction 1 = .ok (.iconst 1, 1) := by decide +kernel
theorem dX8_setSuction_2 : decode cX8_setSuction 2 = .ok (.bipush 20, 2) := by decide +kernel
theorem dX8_setSuction_4 : decode cX8_setSuction 4 = .ok (.invokestatic 61, 3) := by decide +kernel
theorem dX8_setSuction_7 : decode cX8_setSuction 7 = .ok (.ifCond .eq 13, 3) := by decide +kernel
theorem dX8_setSuction_10 : decode cX8_setSuction 10 = .ok (.aload_n 0, 1) := by decide +kernel
theorem dX8_setSuction_11 : decode cX8_setSuction 11 = .ok (.bipush 8, 2) := by decide +kernel
theorem dX8_setSuction_13 : decode cX8_setSuction 13 = .ok (.iload_n 1, 1) := by decide +kernel
theorem dX8_setSuction_14 : decode cX8_setSuction 14 = .ok (.invokevirtual 102, 3) := by decide +kernel
theorem dX8_setSuction_17 : decode cX8_setSuction 17 = .ok (.goto 5, 3) := by decide +kernel
theorem dX8_setSuction_20 : decode cX8_setSuction 20 = .ok (.bipush (-2), 2) := by decide +kernel
theorem dX8_setSuction_22 : decode cX8_setSuction 22 = .ok (.ireturn, 1) := by decide +kernel
set_option maxRecDepth 20000 in
theorem ggX8_set_X8_in : GoodIn wsX8_set wsX8_in := goodIn_r _ [4] (by decide +kernel) (by decide +kernel)
set_option maxRecDepth 20000 in
theorem gX8_set_X8_in : GoodIn wsX8_set (va_wsS RX8 61 yX8_in wsX8_in) := goodIn_app (goodIn_of _ (by decide +kernel)) ggX8_set_X8_in
set_option maxRecDepth 20000 in
theorem ggX8_set_X8_becomes : GoodIn wsX8_set wsX8_becomes := goodIn_r _ [8, 9, 10, 11, 12, 3, 13, 14, 15, 16, 17, 18, 19, 20, 21, 22, 23, 24, 25, 26, 27, 28, 29, 30, 31] (by decide +kernel) (by decide +kernel)
set_option maxRecDepth 20000 in
theorem gX8_set_X8_becomes : GoodIn wsX8_set (wsV RX8 102 RX8 yX8_becomes wsX8_becomes) := goodIn_app (goodIn_of _ (by decide +kernel)) ggX8_set_X8_becomes
theorem dX8_set_0 : decode cX8_set 0 = .ok (.iload_n 1, 1) := by decide +kernel
theorem dX8_set_1 : decode cX8_set 1 = .ok (.iconst 0, 1) := by decide +kernel
theorem dX8_set_2 : decode cX8_set 2 = .ok (.iconst 2, 1) := by decide +kernel
theorem dX8_set_3 : decode cX8_set 3 = .ok (.invokestatic 61, 3) := by decide +kernel
theorem dX8_set_6 : decode cX8_set 6 = .ok (.ifCond .eq 31, 3) := by decide +kernel
theorem dX8_set_9 : decode cX8_set 9 = .ok (.iload_n 2, 1) := by decide +kernel
theorem dX8_set_10 : decode cX8_set 10 = .ok (.iconst 0, 1) := by decide +kernel
theorem dX8_set_11 : decode cX8_set 11 = .ok (.iload_n 1, 1) := by decide +kernel
theorem dX8_set_12 : decode cX8_set 12 = .ok (.ifCond .ne 8, 3) := by decide +kernel
theorem dX8_set_15 : decode cX8_set 15 = .ok (.bipush 10, 2) := by decide +kernel
theorem dX8_set_17 : decode cX8_set 17 = .ok (.goto 14, 3) := by decide +kernel
theorem dX8_set_20 : decode cX8_set 20 = .ok (.iload_n 1, 1) := by decide +kernel
theorem dX8_set_21 : decode cX8_set 21 = .ok (.iconst 1, 1) := by decide +kernel
theorem dX8_set_22 : decode cX8_set 22 = .ok (.if_icmp .ne 7, 3) := by decide +kernel
theorem dX8_set_25 : decode cX8_set 25 = .ok (.iconst 1, 1) := by decide +kernel
theorem dX8_set_26 : decode cX8_set 26 = .ok (.goto 5, 3) := by decide +kernel
theorem dX8_set_29 : decode cX8_set 29 = .ok (.bipush 99, 2) := by decide +kernel
theorem dX8_set_31 : decode cX8_set 31 = .ok (.invokestatic 61, 3) := by decide +kernel
theorem dX8_set_34 : decode cX8_set 34 = .ok (.ifCond .ne 6, 3) := by decide +kernel
theorem dX8_set_37 : decode cX8_set 37 = .ok (.bipush (-2), 2) := by decide +kernel
theorem dX8_set_39 : decode cX8_set 39 = .ok (.ireturn, 1) := by decide +kernel
theorem dX8_set_40 : decode cX8_set 40 = .ok (.aload_n 0, 1) := by decide +kernel
theorem dX8_set_41 : decode cX8_set 41 = .ok (.bipush 9, 2) := by decide +kernel
theorem dX8_set_43 : decode cX8_set 43 = .ok (.iload_n 1, 1) := by decide +kernel
theorem dX8_set_44 : decode cX8_set 44 = .ok (.iadd, 1) := by decide +kernel
theorem dX8_set_45 : decode cX8_set 45 = .ok (.iload_n 2, 1) := by decide +kernel
theorem dX8_set_46 : decode cX8_set 46 = .ok (.invokevirtual 102, 3) := by decide +kernel
theorem dX8_set_49 : decode cX8_set 49 = .ok (.ireturn, 1) := by decide +kernel
theorem dX8_ofPicture_0 : decode cX8_ofPicture 0 = .ok (.aload_n 0, 1) := by decide +kernel
theorem dX8_ofPicture_1 : decode cX8_ofPicture 1 = .ok (.getfield 7, 3) := by decide +kernel
theorem dX8_ofPicture_4 : decode cX8_ofPicture 4 = .ok (.sipush 132, 3) := by decide +kernel
theorem dX8_ofPicture_7 : decode cX8_ofPicture 7 = .ok (.iconst 5, 1) := by decide +kernel
theorem dX8_ofPicture_8 : decode cX8_ofPicture 8 = .ok (.iload_n 1, 1) := by decide +kernel
theorem dX8_ofPicture_9 : decode cX8_ofPicture 9 = .ok (.imul, 1) := by decide +kernel
theorem dX8_ofPicture_10 : decode cX8_ofPicture 10 = .ok (.iadd, 1) := by decide +kernel
theorem dX8_ofPicture_11 : decode cX8_ofPicture 11 = .ok (.iload_n 2, 1) := by decide +kernel
theorem dX8_ofPicture_12 : decode cX8_ofPicture 12 = .ok (.iadd, 1) := by decide +kernel
theorem dX8_ofPicture_13 : decode cX8_ofPicture 13 = .ok (.iaload, 1) := by decide +kernel
theorem dX8_ofPicture_14 : decode cX8_ofPicture 14 = .ok (.ireturn, 1) := by decide +kernel
set_option maxRecDepth 20000 in
theorem ggX8_guess_X8_ofPicture : GoodIn wsX8_guess wsX8_ofPicture := goodIn_r _ [7, 1, 15, 16, 17, 18, 19, 20, 21, 22, 23, 24, 25, 26, 27] (by decide +kernel) (by decide +kernel)
set_option maxRecDepth 20000 in
theorem gX8_guess_X8_ofPicture : GoodIn wsX8_guess (wsV RX8 106 RX8 yX8_ofPicture wsX8_ofPicture) := goodIn_app (goodIn_of _ (by decide +kernel)) ggX8_guess_X8_ofPicture
set_option maxRecDepth 20000 in
theorem ggX8_guess_X8_isPage : GoodIn wsX8_guess wsX8_isPage := goodIn_r _ [11, 1, 12, 13, 6, 14, 15, 16, 17, 18, 19, 20, 21, 22, 23, 24, 25, 26, 27] (by decide +kernel) (by decide +kernel)
set_option maxRecDepth 20000 in
theorem gX8_guess_X8_isPage : GoodIn wsX8_guess (wsV RX8 65 RX8 yX8_isPage wsX8_isPage) := goodIn_app (goodIn_of _ (by decide +kernel)) ggX8_guess_X8_isPage
theorem dX8_guess_0 : decode cX8_guess 0 = .ok (.aload_n 0, 1) := by decide +kernel
theorem dX8_guess_1 : decode cX8_guess 1 = .ok (.iload_n 1, 1) := by decide +kernel
theorem dX8_guess_2 : decode cX8_guess 2 = .ok (.iconst 1, 1) := by decide +kernel
theorem dX8_guess_3 : decode cX8_guess 3 = .ok (.invokevirtual 106, 3) := by decide +kernel
theorem dX8_guess_6 : decode cX8_guess 6 = .ok (.istore_n 2, 1) := by decide +kernel
theorem dX8_guess_7 : decode cX8_guess 7 = .ok (.iload_n 2, 1) := by decide +kernel
theorem dX8_guess_8 : decode cX8_guess 8 = .ok (.aload_n 0, 1) := by decide +kernel
theorem dX8_guess_9 : decode cX8_guess 9 = .ok (.getfield 7, 3) := by decide +kernel
theorem dX8_guess_12 : decode cX8_guess 12 = .ok (.bipush 11, 2) := by decide +kernel
theorem dX8_guess_14 : decode cX8_guess 14 = .ok (.iaload, 1) := by decide +kernel
theorem dX8_guess_15 : decode cX8_guess 15 = .ok (.isub, 1) := by decide +kernel
theorem dX8_guess_16 : decode cX8_guess 16 = .ok (.istore_n 3, 1) := by decide +kernel
theorem dX8_guess_17 : decode cX8_guess 17 = .ok (.iload_n 2, 1) := by decide +kernel
theorem dX8_guess_18 : decode cX8_guess 18 = .ok (.bipush (-5), 2) := by decide +kernel
theorem dX8_guess_20 : decode cX8_guess 20 = .ok (.if_icmp .eq 23, 3) := by decide +kernel
theorem dX8_guess_23 : decode cX8_guess 23 = .ok (.aload_n 0, 1) := by decide +kernel
theorem dX8_guess_24 : decode cX8_guess 24 = .ok (.iload_n 1, 1) := by decide +kernel
theorem dX8_guess_25 : decode cX8_guess 25 = .ok (.iconst 2, 1) := by decide +kernel
theorem dX8_guess_26 : decode cX8_guess 26 = .ok (.invokevirtual 106, 3) := by decide +kernel
theorem dX8_guess_29 : decode cX8_guess 29 = .ok (.iconst 1, 1) := by decide +kernel
theorem dX8_guess_30 : decode cX8_guess 30 = .ok (.if_icmp .ne 13, 3) := by decide +kernel
theorem dX8_guess_33 : decode cX8_guess 33 = .ok (.aload_n 0, 1) := by decide +kernel
theorem dX8_guess_34 : decode cX8_guess 34 = .ok (.iload_n 3, 1) := by decide +kernel
theorem dX8_guess_35 : decode cX8_guess 35 = .ok (.invokevirtual 65, 3) := by decide +kernel
theorem dX8_guess_38 : decode cX8_guess 38 = .ok (.ifCond .eq 5, 3) := by decide +kernel
theorem dX8_guess_41 : decode cX8_guess 41 = .ok (.iload_n 3, 1) := by decide +kernel
theorem dX8_guess_42 : decode cX8_guess 42 = .ok (.ireturn, 1) := by decide +kernel
theorem dX8_guess_43 : decode cX8_guess 43 = .ok (.iload_n 1, 1) := by decide +kernel
theorem dX8_guess_44 : decode cX8_guess 44 = .ok (.ifCond .ne 8, 3) := by decide +kernel
theorem dX8_guess_47 : decode cX8_guess 47 = .ok (.bipush (-5), 2) := by decide +kernel
theorem dX8_guess_49 : decode cX8_guess 49 = .ok (.goto 11, 3) := by decide +kernel
theorem dX8_guess_52 : decode cX8_guess 52 = .ok (.aload_n 0, 1) := by decide +kernel
theorem dX8_guess_53 : decode cX8_guess 53 = .ok (.getfield 26, 3) := by decide +kernel
theorem dX8_guess_56 : decode cX8_guess 56 = .ok (.iload_n 1, 1) := by decide +kernel
theorem dX8_guess_57 : decode cX8_guess 57 = .ok (.iconst 1, 1) := by decide +kernel
theorem dX8_guess_58 : decode cX8_guess 58 = .ok (.isub, 1) := by decide +kernel
theorem dX8_guess_59 : decode cX8_guess 59 = .ok (.iaload, 1) := by decide +kernel
theorem dX8_guess_60 : decode cX8_guess 60 = .ok (.istore 4, 2) := by decide +kernel
theorem dX8_guess_62 : decode cX8_guess 62 = .ok (.iload 4, 2) := by decide +kernel
theorem dX8_guess_64 : decode cX8_guess 64 = .ok (.bipush (-5), 2) := by decide +kernel
theorem dX8_guess_66 : decode cX8_guess 66 = .ok (.if_icmp .eq 21, 3) := by decide +kernel
theorem dX8_guess_69 : decode cX8_guess 69 = .ok (.aload_n 0, 1) := by decide +kernel
theorem dX8_guess_70 : decode cX8_guess 70 = .ok (.iload 4, 2) := by decide +kernel
theorem dX8_guess_72 : decode cX8_guess 72 = .ok (.iconst 1, 1) := by decide +kernel
theorem dX8_guess_73 : decode cX8_guess 73 = .ok (.iadd, 1) := by decide +kernel
theorem dX8_guess_74 : decode cX8_guess 74 = .ok (.invokevirtual 65, 3) := by decide +kernel
theorem dX8_guess_77 : decode cX8_guess 77 = .ok (.ifCond .eq 10, 3) := by decide +kernel
theorem dX8_guess_80 : decode cX8_guess 80 = .ok (.iload 4, 2) := by decide +kernel
theorem dX8_guess_82 : decode cX8_guess 82 = .ok (.iconst 1, 1) := by decide +kernel
theorem dX8_guess_83 : decode cX8_guess 83 = .ok (.iadd, 1) := by decide +kernel
theorem dX8_guess_84 : decode cX8_guess 84 = .ok (.goto 5, 3) := by decide +kernel
theorem dX8_guess_87 : decode cX8_guess 87 = .ok (.bipush (-5), 2) := by decide +kernel
theorem dX8_guess_89 : decode cX8_guess 89 = .ok (.ireturn, 1) := by decide +kernel
set_option maxRecDepth 20000 in
theorem ggX8_guessesAll_X8_guess : GoodIn wsX8_guessesAll wsX8_guess := goodIn_r _ [8, 2, 3, 9, 10, 11, 7, 12, 13, 14, 15, 16, 17, 18, 19, 20, 21, 22, 23, 24, 25, 26, 27, 28, 29, 30, 31, 32] (by decide +kernel) (by decide +kernel)
set_option maxRecDepth 20000 in
theorem gX8_guessesAll_X8_guess : GoodIn wsX8_guessesAll (wsV RX8 109 RX8 yX8_guess wsX8_guess) := goodIn_app (goodIn_of _ (by decide +kernel)) ggX8_guessesAll_X8_guess
set_option maxRecDepth 20000 in
theorem ggX8_guessesAll_X8_ofPicture : GoodIn wsX8_guessesAll wsX8_ofPicture := goodIn_r _ [12, 2, 20, 21, 22, 23, 24, 25, 26, 27, 28, 29, 30, 31, 32] (by decide +kernel) (by decide +kernel)
set_option maxRecDepth 20000 in
theorem gX8_guessesAll_X8_ofPicture : GoodIn wsX8_guessesAll (wsV RX8 106 RX8 yX8_ofPicture wsX8_ofPicture) := goodIn_app (goodIn_of _ (by decide +kernel)) ggX8_guessesAll_X8_ofPicture
theorem dX8_guessesAll_0 : decode cX8_guessesAll 0 = .ok (.iconst 0, 1) := by decide +kernel
theorem dX8_guessesAll_1 : decode cX8_guessesAll 1 = .ok (.istore_n 1, 1) := by decide +kernel
theorem dX8_guessesAll_2 : decode cX8_guessesAll 2 = .ok (.iload_n 1, 1) := by decide +kernel
theorem dX8_guessesAll_3 : decode cX8_guessesAll 3 = .ok (.bipush 60, 2) := by decide +kernel
theorem dX8_guessesAll_5 : decode cX8_guessesAll 5 = .ok (.if_icmp .ge 17, 3) := by decide +kernel
theorem dX8_guessesAll_8 : decode cX8_guessesAll 8 = .ok (.aload_n 0, 1) := by decide +kernel
theorem dX8_guessesAll_9 : decode cX8_guessesAll 9 = .ok (.getfield 29, 3) := by decide +kernel
theorem dX8_guessesAll_12 : decode cX8_guessesAll 12 = .ok (.iload_n 1, 1) := by decide +kernel
theorem dX8_guessesAll_13 : decode cX8_guessesAll 13 = .ok (.bipush (-5), 2) := by decide +kernel
theorem dX8_guessesAll_15 : decode cX8_guessesAll 15 = .ok (.iastore, 1) := by decide +kernel
theorem dX8_guessesAll_16 : decode cX8_guessesAll 16 = .ok (.iinc 1 1, 3) := by decide +kernel
theorem dX8_guessesAll_19 : decode cX8_guessesAll 19 = .ok (.goto (-17), 3) := by decide +kernel
theorem dX8_guessesAll_22 : decode cX8_guessesAll 22 = .ok (.iconst 0, 1) := by decide +kernel
theorem dX8_guessesAll_23 : decode cX8_guessesAll 23 = .ok (.istore_n 1, 1) := by decide +kernel
theorem dX8_guessesAll_24 : decode cX8_guessesAll 24 = .ok (.iload_n 1, 1) := by decide +kernel
theorem dX8_guessesAll_25 : decode cX8_guessesAll 25 = .ok (.aload_n 0, 1) := by decide +kernel
theorem dX8_guessesAll_26 : decode cX8_guessesAll 26 = .ok (.getfield 7, 3) := by decide +kernel
theorem dX8_guessesAll_29 : decode cX8_guessesAll 29 = .ok (.iconst 2, 1) := by decide +kernel
theorem dX8_guessesAll_30 : decode cX8_guessesAll 30 = .ok (.iaload, 1) := by decide +kernel
theorem dX8_guessesAll_31 : decode cX8_guessesAll 31 = .ok (.if_icmp .ge 88, 3) := by decide +kernel
theorem dX8_guessesAll_34 : decode cX8_guessesAll 34 = .ok (.aload_n 0, 1) := by decide +kernel
theorem dX8_guessesAll_35 : decode cX8_guessesAll 35 = .ok (.getfield 26, 3) := by decide +kernel
theorem dX8_guessesAll_38 : decode cX8_guessesAll 38 = .ok (.iload_n 1, 1) := by decide +kernel
theorem dX8_guessesAll_39 : decode cX8_guessesAll 39 = .ok (.aload_n 0, 1) := by decide +kernel
theorem dX8_guessesAll_40 : decode cX8_guessesAll 40 = .ok (.iload_n 1, 1) := by decide +kernel
theorem dX8_guessesAll_41 : decode cX8_guessesAll 41 = .ok (.invokevirtual 109, 3) := by decide +kernel
theorem dX8_guessesAll_44 : decode cX8_guessesAll 44 = .ok (.iastore, 1) := by decide +kernel
theorem dX8_guessesAll_45 : decode cX8_guessesAll 45 = .ok (.aload_n 0, 1) := by decide +kernel
theorem dX8_guessesAll_46 : decode cX8_guessesAll 46 = .ok (.getfield 26, 3) := by decide +kernel
theorem dX8_guessesAll_49 : decode cX8_guessesAll 49 = .ok (.iload_n 1, 1) := by decide +kernel
theorem dX8_guessesAll_50 : decode cX8_guessesAll 50 = .ok (.iaload, 1) := by decide +kernel
theorem dX8_guessesAll_51 : decode cX8_guessesAll 51 = .ok (.istore_n 2, 1) := by decide +kernel
theorem dX8_guessesAll_52 : decode cX8_guessesAll 52 = .ok (.iload_n 2, 1) := by decide +kernel
theorem dX8_guessesAll_53 : decode cX8_guessesAll 53 = .ok (.bipush (-5), 2) := by decide +kernel
theorem dX8_guessesAll_55 : decode cX8_guessesAll 55 = .ok (.if_icmp .eq 58, 3) := by decide +kernel
theorem dX8_guessesAll_58 : decode cX8_guessesAll 58 = .ok (.aload_n 0, 1) := by decide +kernel
theorem dX8_guessesAll_59 : decode cX8_guessesAll 59 = .ok (.getfield 29, 3) := by decide +kernel
theorem dX8_guessesAll_62 : decode cX8_guessesAll 62 = .ok (.iload_n 2, 1) := by decide +kernel
theorem dX8_guessesAll_63 : decode cX8_guessesAll 63 = .ok (.iaload, 1) := by decide +kernel
theorem dX8_guessesAll_64 : decode cX8_guessesAll 64 = .ok (.istore_n 3, 1) := by decide +kernel
theorem dX8_guessesAll_65 : decode cX8_guessesAll 65 = .ok (.iload_n 3, 1) := by decide +kernel
theorem dX8_guessesAll_66 : decode cX8_guessesAll 66 = .ok (.bipush (-5), 2) := by decide +kernel
theorem dX8_guessesAll_68 : decode cX8_guessesAll 68 = .ok (.if_icmp .eq 22, 3) := by decide +kernel
theorem dX8_guessesAll_71 : decode cX8_guessesAll 71 = .ok (.aload_n 0, 1) := by decide +kernel
theorem dX8_guessesAll_72 : decode cX8_guessesAll 72 = .ok (.iload_n 3, 1) := by decide +kernel
theorem dX8_guessesAll_73 : decode cX8_guessesAll 73 = .ok (.iconst 2, 1) := by decide +kernel
theorem dX8_guessesAll_74 : decode cX8_guessesAll 74 = .ok (.invokevirtual 106, 3) := by decide +kernel
theorem dX8_guessesAll_77 : decode cX8_guessesAll 77 = .ok (.ifCond .ne 17, 3) := by decide +kernel
theorem dX8_guessesAll_80 : decode cX8_guessesAll 80 = .ok (.aload_n 0, 1) := by decide +kernel
theorem dX8_guessesAll_81 : decode cX8_guessesAll 81 = .ok (.iload_n 1, 1) := by decide +kernel
theorem dX8_guessesAll_82 : decode cX8_guessesAll 82 = .ok (.iconst 2, 1) := by decide +kernel
theorem dX8_guessesAll_83 : decode cX8_guessesAll 83 = .ok (.invokevirtual 106, 3) := by decide +kernel
theorem dX8_guessesAll_86 : decode cX8_guessesAll 86 = .ok (.iconst 1, 1) := by decide +kernel
theorem dX8_guessesAll_87 : decode cX8_guessesAll 87 = .ok (.if_icmp .ne 7, 3) := by decide +kernel
theorem dX8_guessesAll_90 : decode cX8_guessesAll 90 = .ok (.iconst 1, 1) := by decide +kernel
theorem dX8_guessesAll_91 : decode cX8_guessesAll 91 = .ok (.goto 4, 3) := by decide +kernel
theorem dX8_guessesAll_94 : decode cX8_guessesAll 94 = .ok (.iconst 0, 1) := by decide +kernel
theorem dX8_guessesAll_95 : decode cX8_guessesAll 95 = .ok (.istore 4, 2) := by decide +kernel
theorem dX8_guessesAll_97 : decode cX8_guessesAll 97 = .ok (.aload_n 0, 1) := by decide +kernel
theorem dX8_guessesAll_98 : decode cX8_guessesAll 98 = .ok (.getfield 29, 3) := by decide +kernel
theorem dX8_guessesAll_101 : decode cX8_guessesAll 101 = .ok (.iload_n 2, 1) := by decide +kernel
theorem dX8_guessesAll_102 : decode cX8_guessesAll 102 = .ok (.iload 4, 2) := by decide +kernel
theorem dX8_guessesAll_104 : decode cX8_guessesAll 104 = .ok (.ifCond .eq 7, 3) := by decide +kernel
theorem dX8_guessesAll_107 : decode cX8_guessesAll 107 = .ok (.iload_n 1, 1) := by decide +kernel
theorem dX8_guessesAll_108 : decode cX8_guessesAll 108 = .ok (.goto 4, 3) := by decide +kernel
theorem dX8_guessesAll_111 : decode cX8_guessesAll 111 = .ok (.iload_n 3, 1) := by decide +kernel
theorem dX8_guessesAll_112 : decode cX8_guessesAll 112 = .ok (.iastore, 1) := by decide +kernel
theorem dX8_guessesAll_113 : decode cX8_guessesAll 113 = .ok (.iinc 1 1, 3) := by decide +kernel
theorem dX8_guessesAll_116 : decode cX8_guessesAll 116 = .ok (.goto (-92), 3) := by decide +kernel
theorem dX8_guessesAll_119 : decode cX8_guessesAll 119 = .ok (.return_, 1) := by decide +kernel
set_option maxRecDepth 20000 in
theorem ggX8_isDoubtful_X8_ofPicture : GoodIn wsX8_isDoubtful wsX8_ofPicture := goodIn_r _ [6, 7, 8, 9, 10, 11, 12, 13, 14, 15, 16, 17, 18, 19, 20] (by decide +kernel) (by decide +kernel)
set_option maxRecDepth 20000 in
theorem gX8_isDoubtful_X8_ofPicture : GoodIn wsX8_isDoubtful (wsV RX8 106 RX8 yX8_ofPicture wsX8_ofPicture) := goodIn_app (goodIn_of _ (by decide +kernel)) ggX8_isDoubtful_X8_ofPicture
theorem dX8_isDoubtful_0 : decode cX8_isDoubtful 0 = .ok (.aload_n 0, 1) := by decide +kernel
theorem dX8_isDoubtful_1 : decode cX8_isDoubtful 1 = .ok (.getfield 29, 3) := by decide +kernel
theorem dX8_isDoubtful_4 : decode cX8_isDoubtful 4 = .ok (.iload_n 1, 1) := by decide +kernel
theorem dX8_isDoubtful_5 : decode cX8_isDoubtful 5 = .ok (.iaload, 1) := by decide +kernel
theorem dX8_isDoubtful_6 : decode cX8_isDoubtful 6 = .ok (.bipush (-5), 2) := by decide +kernel
theorem dX8_isDoubtful_8 : decode cX8_isDoubtful 8 = .ok (.if_icmp .eq 22, 3) := by decide +kernel
theorem dX8_isDoubtful_11 : decode cX8_isDoubtful 11 = .ok (.aload_n 0, 1) := by decide +kernel
theorem dX8_isDoubtful_12 : decode cX8_isDoubtful 12 = .ok (.aload_n 0, 1) := by decide +kernel
theorem dX8_isDoubtful_13 : decode cX8_isDoubtful 13 = .ok (.getfield 29, 3) := by decide +kernel
theorem dX8_isDoubtful_16 : decode cX8_isDoubtful 16 = .ok (.iload_n 1, 1) := by decide +kernel
theorem dX8_isDoubtful_17 : decode cX8_isDoubtful 17 = .ok (.iaload, 1) := by decide +kernel
theorem dX8_isDoubtful_18 : decode cX8_isDoubtful 18 = .ok (.iconst 0, 1) := by decide +kernel
theorem dX8_isDoubtful_19 : decode cX8_isDoubtful 19 = .ok (.invokevirtual 106, 3) := by decide +kernel
theorem dX8_isDoubtful_22 : decode cX8_isDoubtful 22 = .ok (.iload_n 1, 1) := by decide +kernel
theorem dX8_isDoubtful_23 : decode cX8_isDoubtful 23 = .ok (.if_icmp .eq 7, 3) := by decide +kernel
theorem dX8_isDoubtful_26 : decode cX8_isDoubtful 26 = .ok (.iconst 1, 1) := by decide +kernel
theorem dX8_isDoubtful_27 : decode cX8_isDoubtful 27 = .ok (.goto 4, 3) := by decide +kernel
theorem dX8_isDoubtful_30 : decode cX8_isDoubtful 30 = .ok (.iconst 0, 1) := by decide +kernel
theorem dX8_isDoubtful_31 : decode cX8_isDoubtful 31 = .ok (.ireturn, 1) := by decide +kernel
theorem dX8_isSpare_0 : decode cX8_isSpare 0 = .ok (.aload_n 0, 1) := by decide +kernel
theorem dX8_isSpare_1 : decode cX8_isSpare 1 = .ok (.getfield 26, 3) := by decide +kernel
theorem dX8_isSpare_4 : decode cX8_isSpare 4 = .ok (.iload_n 1, 1) := by decide +kernel
theorem dX8_isSpare_5 : decode cX8_isSpare 5 = .ok (.iaload, 1) := by decide +kernel
theorem dX8_isSpare_6 : decode cX8_isSpare 6 = .ok (.bipush (-5), 2) := by decide +kernel
theorem dX8_isSpare_8 : decode cX8_isSpare 8 = .ok (.if_icmp .eq 18, 3) := by decide +kernel
theorem dX8_isSpare_11 : decode cX8_isSpare 11 = .ok (.aload_n 0, 1) := by decide +kernel
theorem dX8_isSpare_12 : decode cX8_isSpare 12 = .ok (.getfield 29, 3) := by decide +kernel
theorem dX8_isSpare_15 : decode cX8_isSpare 15 = .ok (.aload_n 0, 1) := by decide +kernel
theorem dX8_isSpare_16 : decode cX8_isSpare 16 = .ok (.getfield 26, 3) := by decide +kernel
theorem dX8_isSpare_19 : decode cX8_isSpare 19 = .ok (.iload_n 1, 1) := by decide +kernel
theorem dX8_isSpare_20 : decode cX8_isSpare 20 = .ok (.iaload, 1) := by decide +kernel
theorem dX8_isSpare_21 : decode cX8_isSpare 21 = .ok (.iaload, 1) := by decide +kernel
theorem dX8_isSpare_22 : decode cX8_isSpare 22 = .ok (.iload_n 1, 1) := by decide +kernel
theorem dX8_isSpare_23 : decode cX8_isSpare 23 = .ok (.if_icmp .eq 7, 3) := by decide +kernel
theorem dX8_isSpare_26 : decode cX8_isSpare 26 = .ok (.iconst 1, 1) := by decide +kernel
theorem dX8_isSpare_27 : decode cX8_isSpare 27 = .ok (.goto 4, 3) := by decide +kernel
theorem dX8_isSpare_30 : decode cX8_isSpare 30 = .ok (.iconst 0, 1) := by decide +kernel
theorem dX8_isSpare_31 : decode cX8_isSpare 31 = .ok (.ireturn, 1) := by decide +kernel
set_option maxRecDepth 20000 in
theorem ggX8_shownBy_X8_ofPicture : GoodIn wsX8_shownBy wsX8_ofPicture := goodIn_r _ [6, 1, 7, 8, 9, 10, 11, 12, 13, 14, 15, 16, 17, 18, 19] (by decide +kernel) (by decide +kernel)
set_option maxRecDepth 20000 in
theorem gX8_shownBy_X8_ofPicture : GoodIn wsX8_shownBy (wsV RX8 106 RX8 yX8_ofPicture wsX8_ofPicture) := goodIn_app (goodIn_of _ (by decide +kernel)) ggX8_shownBy_X8_ofPicture
theorem dX8_shownBy_0 : decode cX8_shownBy 0 = .ok (.iconst 0, 1) := by decide +kernel
theorem dX8_shownBy_1 : decode cX8_shownBy 1 = .ok (.istore_n 2, 1) := by decide +kernel
theorem dX8_shownBy_2 : decode cX8_shownBy 2 = .ok (.iconst 0, 1) := by decide +kernel
theorem dX8_shownBy_3 : decode cX8_shownBy 3 = .ok (.istore_n 3, 1) := by decide +kernel
theorem dX8_shownBy_4 : decode cX8_shownBy 4 = .ok (.iload_n 3, 1) := by decide +kernel
theorem dX8_shownBy_5 : decode cX8_shownBy 5 = .ok (.aload_n 0, 1) := by decide +kernel
theorem dX8_shownBy_6 : decode cX8_shownBy 6 = .ok (.getfield 7, 3) := by decide +kernel
theorem dX8_shownBy_9 : decode cX8_shownBy 9 = .ok (.iconst 2, 1) := by decide +kernel
theorem dX8_shownBy_10 : decode cX8_shownBy 10 = .ok (.iaload, 1) := by decide +kernel
theorem dX8_shownBy_11 : decode cX8_shownBy 11 = .ok (.if_icmp .ge 27, 3) := by decide +kernel
theorem dX8_shownBy_14 : decode cX8_shownBy 14 = .ok (.iload_n 2, 1) := by decide +kernel
theorem dX8_shownBy_15 : decode cX8_shownBy 15 = .ok (.aload_n 0, 1) := by decide +kernel
theorem dX8_shownBy_16 : decode cX8_shownBy 16 = .ok (.iload_n 3, 1) := by decide +kernel
theorem dX8_shownBy_17 : decode cX8_shownBy 17 = .ok (.iconst 0, 1) := by decide +kernel
theorem dX8_shownBy_18 : decode cX8_shownBy 18 = .ok (.invokevirtual 106, 3) := by decide +kernel
theorem dX8_shownBy_21 : decode cX8_shownBy 21 = .ok (.iload_n 1, 1) := by decide +kernel
theorem dX8_shownBy_22 : decode cX8_shownBy 22 = .ok (.if_icmp .ne 7, 3) := by decide +kernel
theorem dX8_shownBy_25 : decode cX8_shownBy 25 = .ok (.iconst 1, 1) := by decide +kernel
theorem dX8_shownBy_26 : decode cX8_shownBy 26 = .ok (.goto 4, 3) := by decide +kernel
theorem dX8_shownBy_29 : decode cX8_shownBy 29 = .ok (.iconst 0, 1) := by decide +kernel
theorem dX8_shownBy_30 : decode cX8_shownBy 30 = .ok (.iadd, 1) := by decide +kernel
theorem dX8_shownBy_31 : decode cX8_shownBy 31 = .ok (.istore_n 2, 1) := by decide +kernel
theorem dX8_shownBy_32 : decode cX8_shownBy 32 = .ok (.iinc 3 1, 3) := by decide +kernel
theorem dX8_shownBy_35 : decode cX8_shownBy 35 = .ok (.goto (-31), 3) := by decide +kernel
theorem dX8_shownBy_38 : decode cX8_shownBy 38 = .ok (.iload_n 2, 1) := by decide +kernel
theorem dX8_shownBy_39 : decode cX8_shownBy 39 = .ok (.ireturn, 1) := by decide +kernel
theorem dX8_type_0 : decode cX8_type 0 = .ok (.aload_n 0, 1) := by decide +kernel
theorem dX8_type_1 : decode cX8_type 1 = .ok (.getfield 113, 3) := by decide +kernel
theorem dX8_type_4 : decode cX8_type 4 = .ok (.bipush 60, 2) := by decide +kernel
theorem dX8_type_6 : decode cX8_type 6 = .ok (.if_icmp .ne 6, 3) := by decide +kernel
theorem dX8_type_9 : decode cX8_type 9 = .ok (.bipush (-3), 2) := by decide +kernel
theorem dX8_type_11 : decode cX8_type 11 = .ok (.ireturn, 1) := by decide +kernel
theorem dX8_type_12 : decode cX8_type 12 = .ok (.aload_n 0, 1) := by decide +kernel
theorem dX8_type_13 : decode cX8_type 13 = .ok (.getfield 22, 3) := by decide +kernel
theorem dX8_type_16 : decode cX8_type 16 = .ok (.aload_n 0, 1) := by decide +kernel
theorem dX8_type_17 : decode cX8_type 17 = .ok (.getfield 113, 3) := by decide +kernel
theorem dX8_type_20 : decode cX8_type 20 = .ok (.iload_n 1, 1) := by decide +kernel
theorem dX8_type_21 : decode cX8_type 21 = .ok (.castore, 1) := by decide +kernel
theorem dX8_type_22 : decode cX8_type 22 = .ok (.aload_n 0, 1) := by decide +kernel
theorem dX8_type_23 : decode cX8_type 23 = .ok (.dup, 1) := by decide +kernel
theorem dX8_type_24 : decode cX8_type 24 = .ok (.getfield 113, 3) := by decide +kernel
theorem dX8_type_27 : decode cX8_type 27 = .ok (.iconst 1, 1) := by decide +kernel
theorem dX8_type_28 : decode cX8_type 28 = .ok (.iadd, 1) := by decide +kernel
theorem dX8_type_29 : decode cX8_type 29 = .ok (.putfield 113, 3) := by decide +kernel
theorem dX8_type_32 : decode cX8_type 32 = .ok (.aload_n 0, 1) := by decide +kernel
theorem dX8_type_33 : decode cX8_type 33 = .ok (.getfield 113, 3) := by decide +kernel
theorem dX8_type_36 : decode cX8_type 36 = .ok (.ireturn, 1) := by decide +kernel
theorem dX8_clearText_0 : decode cX8_clearText 0 = .ok (.aload_n 0, 1) := by decide +kernel
theorem dX8_clearText_1 : decode cX8_clearText 1 = .ok (.getfield 113, 3) := by decide +kernel
theorem dX8_clearText_4 : decode cX8_clearText 4 = .ok (.istore_n 1, 1) := by decide +kernel
theorem dX8_clearText_5 : decode cX8_clearText 5 = .ok (.aload_n 0, 1) := by decide +kernel
theorem dX8_clearText_6 : decode cX8_clearText 6 = .ok (.iconst 0, 1) := by decide +kernel
theorem dX8_clearText_7 : decode cX8_clearText 7 = .ok (.putfield 113, 3) := by decide +kernel
theorem dX8_clearText_10 : decode cX8_clearText 10 = .ok (.iload_n 1, 1) := by decide +kernel
theorem dX8_clearText_11 : decode cX8_clearText 11 = .ok (.ireturn, 1) := by decide +kernel
set_option maxRecDepth 20000 in
theorem ggX8_sees_X8_in : GoodIn wsX8_sees wsX8_in := goodIn_r _ [7] (by decide +kernel) (by decide +kernel)
set_option maxRecDepth 20000 in
theorem gX8_sees_X8_in : GoodIn wsX8_sees (va_wsS RX8 61 yX8_in wsX8_in) := goodIn_app (goodIn_of _ (by decide +kernel)) ggX8_sees_X8_in
theorem dX8_sees_0 : decode cX8_sees 0 = .ok (.aload_n 0, 1) := by decide +kernel
theorem dX8_sees_1 : decode cX8_sees 1 = .ok (.getfield 116, 3) := by decide +kernel
theorem dX8_sees_4 : decode cX8_sees 4 = .ok (.aload_n 0, 1) := by decide +kernel
theorem dX8_sees_5 : decode cX8_sees 5 = .ok (.getfield 113, 3) := by decide +kernel
theorem dX8_sees_8 : decode cX8_sees 8 = .ok (.if_icmp .ge 24, 3) := by decide +kernel
theorem dX8_sees_11 : decode cX8_sees 11 = .ok (.aload_n 0, 1) := by decide +kernel
theorem dX8_sees_12 : decode cX8_sees 12 = .ok (.getfield 22, 3) := by decide +kernel
theorem dX8_sees_15 : decode cX8_sees 15 = .ok (.aload_n 0, 1) := by decide +kernel
theorem dX8_sees_16 : decode cX8_sees 16 = .ok (.getfield 116, 3) := by decide +kernel
theorem dX8_sees_19 : decode cX8_sees 19 = .ok (.caload, 1) := by decide +kernel
theorem dX8_sees_20 : decode cX8_sees 20 = .ok (.iload_n 1, 1) := by decide +kernel
theorem dX8_sees_21 : decode cX8_sees 21 = .ok (.iload_n 2, 1) := by decide +kernel
theorem dX8_sees_22 : decode cX8_sees 22 = .ok (.invokestatic 61, 3) := by decide +kernel
theorem dX8_sees_25 : decode cX8_sees 25 = .ok (.ifCond .eq 7, 3) := by decide +kernel
theorem dX8_sees_28 : decode cX8_sees 28 = .ok (.iconst 1, 1) := by decide +kernel
theorem dX8_sees_29 : decode cX8_sees 29 = .ok (.goto 4, 3) := by decide +kernel
theorem dX8_sees_32 : decode cX8_sees 32 = .ok (.iconst 0, 1) := by decide +kernel
theorem dX8_sees_33 : decode cX8_sees 33 = .ok (.ireturn, 1) := by decide +kernel
set_option maxRecDepth 20000 in
theorem ggX8_takesSign_X8_sees : GoodIn wsX8_takesSign wsX8_sees := goodIn_r _ [6, 1, 7, 8, 9, 10, 5, 11, 12, 13, 14, 15, 16, 17, 18, 19, 20, 21, 22, 23, 24] (by decide +kernel) (by decide +kernel)
set_option maxRecDepth 20000 in
theorem gX8_takesSign_X8_sees : GoodIn wsX8_takesSign (wsV RX8 119 RX8 yX8_sees wsX8_sees) := goodIn_app (goodIn_of _ (by decide +kernel)) ggX8_takesSign_X8_sees
theorem dX8_takesSign_0 : decode cX8_takesSign 0 = .ok (.aload_n 0, 1) := by decide +kernel
theorem dX8_takesSign_1 : decode cX8_takesSign 1 = .ok (.iload_n 1, 1) := by decide +kernel
theorem dX8_takesSign_2 : decode cX8_takesSign 2 = .ok (.iload_n 1, 1) := by decide +kernel
theorem dX8_takesSign_3 : decode cX8_takesSign 3 = .ok (.invokevirtual 119, 3) := by decide +kernel
theorem dX8_takesSign_6 : decode cX8_takesSign 6 = .ok (.istore_n 2, 1) := by decide +kernel
theorem dX8_takesSign_7 : decode cX8_takesSign 7 = .ok (.aload_n 0, 1) := by decide +kernel
theorem dX8_takesSign_8 : decode cX8_takesSign 8 = .ok (.dup, 1) := by decide +kernel
theorem dX8_takesSign_9 : decode cX8_takesSign 9 = .ok (.getfield 116, 3) := by decide +kernel
theorem dX8_takesSign_12 : decode cX8_takesSign 12 = .ok (.iload_n 2, 1) := by decide +kernel
theorem dX8_takesSign_13 : decode cX8_takesSign 13 = .ok (.ifCond .eq 7, 3) := by decide +kernel
theorem dX8_takesSign_16 : decode cX8_takesSign 16 = .ok (.iconst 1, 1) := by decide +kernel
theorem dX8_takesSign_17 : decode cX8_takesSign 17 = .ok (.goto 4, 3) := by decide +kernel
theorem dX8_takesSign_20 : decode cX8_takesSign 20 = .ok (.iconst 0, 1) := by decide +kernel
theorem dX8_takesSign_21 : decode cX8_takesSign 21 = .ok (.iadd, 1) := by decide +kernel
theorem dX8_takesSign_22 : decode cX8_takesSign 22 = .ok (.putfield 116, 3) := by decide +kernel
theorem dX8_takesSign_25 : decode cX8_takesSign 25 = .ok (.iload_n 2, 1) := by decide +kernel
theorem dX8_takesSign_26 : decode cX8_takesSign 26 = .ok (.ireturn, 1) := by decide +kernel
set_option maxRecDepth 20000 in
theorem ggX8_isDigit_X8_sees : GoodIn wsX8_isDigit wsX8_sees := goodIn_r _ [9, 4, 10, 3, 11, 12, 8, 13, 14, 15, 16, 17, 18, 19, 20, 21, 22, 23, 24, 25, 26] (by decide +kernel) (by decide +kernel)
set_option maxRecDepth 20000 in
theorem gX8_isDigit_X8_sees : GoodIn wsX8_isDigit (wsV RX8 119 RX8 yX8_sees wsX8_sees) := goodIn_app (goodIn_of _ (by decide +kernel)) ggX8_isDigit_X8_sees
theorem dX8_isDigit_0 : decode cX8_isDigit 0 = .ok (.aload_n 0, 1) := by decide +kernel
theorem dX8_isDigit_1 : decode cX8_isDigit 1 = .ok (.bipush 49, 2) := by decide +kernel
theorem dX8_isDigit_3 : decode cX8_isDigit 3 = .ok (.bipush 57, 2) := by decide +kernel
theorem dX8_isDigit_5 : decode cX8_isDigit 5 = .ok (.invokevirtual 119, 3) := by decide +kernel
theorem dX8_isDigit_8 : decode cX8_isDigit 8 = .ok (.ifCond .ne 5, 3) := by decide +kernel
theorem dX8_isDigit_11 : decode cX8_isDigit 11 = .ok (.iconst 0, 1) := by decide +kernel
theorem dX8_isDigit_12 : decode cX8_isDigit 12 = .ok (.ireturn, 1) := by decide +kernel
theorem dX8_isDigit_13 : decode cX8_isDigit 13 = .ok (.aload_n 0, 1) := by decide +kernel
theorem dX8_isDigit_14 : decode cX8_isDigit 14 = .ok (.getfield 32, 3) := by decide +kernel
theorem dX8_isDigit_17 : decode cX8_isDigit 17 = .ok (.iconst 3, 1) := by decide +kernel
theorem dX8_isDigit_18 : decode cX8_isDigit 18 = .ok (.aload_n 0, 1) := by decide +kernel
theorem dX8_isDigit_19 : decode cX8_isDigit 19 = .ok (.getfield 54, 3) := by decide +kernel
theorem dX8_isDigit_22 : decode cX8_isDigit 22 = .ok (.imul, 1) := by decide +kernel
theorem dX8_isDigit_23 : decode cX8_isDigit 23 = .ok (.iload_n 1, 1) := by decide +kernel
theorem dX8_isDigit_24 : decode cX8_isDigit 24 = .ok (.iadd, 1) := by decide +kernel
theorem dX8_isDigit_25 : decode cX8_isDigit 25 = .ok (.aload_n 0, 1) := by decide +kernel
theorem dX8_isDigit_26 : decode cX8_isDigit 26 = .ok (.getfield 22, 3) := by decide +kernel
theorem dX8_isDigit_29 : decode cX8_isDigit 29 = .ok (.aload_n 0, 1) := by decide +kernel
theorem dX8_isDigit_30 : decode cX8_isDigit 30 = .ok (.getfield 116, 3) := by decide +kernel
theorem dX8_isDigit_33 : decode cX8_isDigit 33 = .ok (.caload, 1) := by decide +kernel
theorem dX8_isDigit_34 : decode cX8_isDigit 34 = .ok (.bipush 48, 2) := by decide +kernel
theorem dX8_isDigit_36 : decode cX8_isDigit 36 = .ok (.isub, 1) := by decide +kernel
theorem dX8_isDigit_37 : decode cX8_isDigit 37 = .ok (.iastore, 1) := by decide +kernel
theorem dX8_isDigit_38 : decode cX8_isDigit 38 = .ok (.aload_n 0, 1) := by decide +kernel
theorem dX8_isDigit_39 : decode cX8_isDigit 39 = .ok (.dup, 1) := by decide +kernel
theorem dX8_isDigit_40 : decode cX8_isDigit 40 = .ok (.getfield 116, 3) := by decide +kernel
theorem dX8_isDigit_43 : decode cX8_isDigit 43 = .ok (.iconst 1, 1) := by decide +kernel
theorem dX8_isDigit_44 : decode cX8_isDigit 44 = .ok (.iadd, 1) := by decide +kernel
theorem dX8_isDigit_45 : decode cX8_isDigit 45 = .ok (.putfield 116, 3) := by decide +kernel
theorem dX8_isDigit_48 : decode cX8_isDigit 48 = .ok (.iconst 1, 1) := by decide +kernel
theorem dX8_isDigit_49 : decode cX8_isDigit 49 = .ok (.ireturn, 1) := by decide +kernel
set_option maxRecDepth 20000 in
theorem ggX8_isLeafTold_X8_isDigit : GoodIn wsX8_isLeafTold wsX8_isDigit := goodIn_r _ [7, 1, 2, 8, 9, 10, 11, 12, 6, 13, 14, 15, 16, 17, 22, 23, 24, 25, 26, 27, 28, 29, 30, 31, 32, 33, 34] (by decide +kernel) (by decide +kernel)
set_option maxRecDepth 20000 in
theorem gX8_isLeafTold_X8_isDigit : GoodIn wsX8_isLeafTold (wsV RX8 123 RX8 yX8_isDigit wsX8_isDigit) := goodIn_app (goodIn_of _ (by decide +kernel)) ggX8_isLeafTold_X8_isDigit
set_option maxRecDepth 20000 in
theorem ggX8_isLeafTold_X8_takesSign : GoodIn wsX8_isLeafTold wsX8_takesSign := goodIn_r _ [21, 9, 10, 11, 12, 6, 13, 14, 8, 15, 16, 17, 22, 23, 24, 25, 26, 27, 28, 29, 30, 31, 32, 33, 34] (by decide +kernel) (by decide +kernel)
set_option maxRecDepth 20000 in
theorem gX8_isLeafTold_X8_takesSign : GoodIn wsX8_isLeafTold (wsV RX8 126 RX8 yX8_takesSign wsX8_takesSign) := goodIn_app (goodIn_of _ (by decide +kernel)) ggX8_isLeafTold_X8_takesSign
theorem dX8_isLeafTold_0 : decode cX8_isLeafTold 0 = .ok (.aload_n 0, 1) := by decide +kernel
theorem dX8_isLeafTold_1 : decode cX8_isLeafTold 1 = .ok (.getfield 32, 3) := by decide +kernel
theorem dX8_isLeafTold_4 : decode cX8_isLeafTold 4 = .ok (.iconst 3, 1) := by decide +kernel
theorem dX8_isLeafTold_5 : decode cX8_isLeafTold 5 = .ok (.aload_n 0, 1) := by decide +kernel
theorem dX8_isLeafTold_6 : decode cX8_isLeafTold 6 = .ok (.getfield 54, 3) := by decide +kernel
theorem dX8_isLeafTold_9 : decode cX8_isLeafTold 9 = .ok (.imul, 1) := by decide +kernel
theorem dX8_isLeafTold_10 : decode cX8_isLeafTold 10 = .ok (.iconst 1, 1) := by decide +kernel
theorem dX8_isLeafTold_11 : decode cX8_isLeafTold 11 = .ok (.iadd, 1) := by decide +kernel
theorem dX8_isLeafTold_12 : decode cX8_isLeafTold 12 = .ok (.iconst 0, 1) := by decide +kernel
theorem dX8_isLeafTold_13 : decode cX8_isLeafTold 13 = .ok (.iastore, 1) := by decide +kernel
theorem dX8_isLeafTold_14 : decode cX8_isLeafTold 14 = .ok (.aload_n 0, 1) := by decide +kernel
theorem dX8_isLeafTold_15 : decode cX8_isLeafTold 15 = .ok (.iconst 0, 1) := by decide +kernel
theorem dX8_isLeafTold_16 : decode cX8_isLeafTold 16 = .ok (.invokevirtual 123, 3) := by decide +kernel
theorem dX8_isLeafTold_19 : decode cX8_isLeafTold 19 = .ok (.ifCond .eq 20, 3) := by decide +kernel
theorem dX8_isLeafTold_22 : decode cX8_isLeafTold 22 = .ok (.aload_n 0, 1) := by decide +kernel
theorem dX8_isLeafTold_23 : decode cX8_isLeafTold 23 = .ok (.bipush 115, 2) := by decide +kernel
theorem dX8_isLeafTold_25 : decode cX8_isLeafTold 25 = .ok (.invokevirtual 126, 3) := by decide +kernel
theorem dX8_isLeafTold_28 : decode cX8_isLeafTold 28 = .ok (.ifCond .eq 13, 3) := by decide +kernel
theorem dX8_isLeafTold_31 : decode cX8_isLeafTold 31 = .ok (.aload_n 0, 1) := by decide +kernel
theorem dX8_isLeafTold_32 : decode cX8_isLeafTold 32 = .ok (.iconst 1, 1) := by decide +kernel
theorem dX8_isLeafTold_33 : decode cX8_isLeafTold 33 = .ok (.invokevirtual 123, 3) := by decide +kernel
theorem dX8_isLeafTold_36 : decode cX8_isLeafTold 36 = .ok (.ifCond .ne 5, 3) := by decide +kernel
theorem dX8_isLeafTold_39 : decode cX8_isLeafTold 39 = .ok (.iconst 0, 1) := by decide +kernel
theorem dX8_isLeafTold_40 : decode cX8_isLeafTold 40 = .ok (.ireturn, 1) := by decide +kernel
theorem dX8_isLeafTold_41 : decode cX8_isLeafTold 41 = .ok (.aload_n 0, 1) := by decide +kernel
theorem dX8_isLeafTold_42 : decode cX8_isLeafTold 42 = .ok (.getfield 32, 3) := by decide +kernel
theorem dX8_isLeafTold_45 : decode cX8_isLeafTold 45 = .ok (.iconst 3, 1) := by decide +kernel
theorem dX8_isLeafTold_46 : decode cX8_isLeafTold 46 = .ok (.aload_n 0, 1) := by decide +kernel
theorem dX8_isLeafTold_47 : decode cX8_isLeafTold 47 = .ok (.getfield 54, 3) := by decide +kernel
theorem dX8_isLeafTold_50 : decode cX8_isLeafTold 50 = .ok (.imul, 1) := by decide +kernel
theorem dX8_isLeafTold_51 : decode cX8_isLeafTold 51 = .ok (.iconst 2, 1) := by decide +kernel
theorem dX8_isLeafTold_52 : decode cX8_isLeafTold 52 = .ok (.iadd, 1) := by decide +kernel
theorem dX8_isLeafTold_53 : decode cX8_isLeafTold 53 = .ok (.aload_n 0, 1) := by decide +kernel
theorem dX8_isLeafTold_54 : decode cX8_isLeafTold 54 = .ok (.bipush 42, 2) := by decide +kernel
theorem dX8_isLeafTold_56 : decode cX8_isLeafTold 56 = .ok (.invokevirtual 126, 3) := by decide +kernel
theorem dX8_isLeafTold_59 : decode cX8_isLeafTold 59 = .ok (.ifCond .eq 8, 3) := by decide +kernel
theorem dX8_isLeafTold_62 : decode cX8_isLeafTold 62 = .ok (.bipush (-5), 2) := by decide +kernel
theorem dX8_isLeafTold_64 : decode cX8_isLeafTold 64 = .ok (.goto 17, 3) := by decide +kernel
theorem dX8_isLeafTold_67 : decode cX8_isLeafTold 67 = .ok (.aload_n 0, 1) := by decide +kernel
theorem dX8_isLeafTold_68 : decode cX8_isLeafTold 68 = .ok (.bipush 33, 2) := by decide +kernel
theorem dX8_isLeafTold_70 : decode cX8_isLeafTold 70 = .ok (.invokevirtual 126, 3) := by decide +kernel
theorem dX8_isLeafTold_73 : decode cX8_isLeafTold 73 = .ok (.ifCond .eq 7, 3) := by decide +kernel
theorem dX8_isLeafTold_76 : decode cX8_isLeafTold 76 = .ok (.iconst 3, 1) := by decide +kernel
theorem dX8_isLeafTold_77 : decode cX8_isLeafTold 77 = .ok (.goto 4, 3) := by decide +kernel
theorem dX8_isLeafTold_80 : decode cX8_isLeafTold 80 = .ok (.iconst 1, 1) := by decide +kernel
theorem dX8_isLeafTold_81 : decode cX8_isLeafTold 81 = .ok (.iastore, 1) := by decide +kernel
theorem dX8_isLeafTold_82 : decode cX8_isLeafTold 82 = .ok (.iconst 1, 1) := by decide +kernel
theorem dX8_isLeafTold_83 : decode cX8_isLeafTold 83 = .ok (.ireturn, 1) := by decide +kernel
set_option maxRecDepth 20000 in
theorem ggX8_fault_X8_isLeafTold : GoodIn wsX8_fault wsX8_isLeafTold := goodIn_r _ [8, 9, 2, 10, 11, 12, 7, 13, 14, 1, 15, 16, 17, 18, 3, 19, 20, 21, 22, 23, 24, 25, 26, 27, 28, 29, 30, 31, 32, 33, 34, 35, 36, 37, 38] (by decide +kernel) (by decide +kernel)
set_option maxRecDepth 20000 in
theorem gX8_fault_X8_isLeafTold : GoodIn wsX8_fault (wsV RX8 129 RX8 yX8_isLeafTold wsX8_isLeafTold) := goodIn_app (goodIn_of _ (by decide +kernel)) ggX8_fault_X8_isLeafTold
set_option maxRecDepth 20000 in
theorem ggX8_fault_X8_takesSign : GoodIn wsX8_fault wsX8_takesSign := goodIn_r _ [25, 1, 15, 16, 17, 7, 18, 3, 14, 19, 20, 21, 26, 27, 28, 29, 30, 31, 32, 33, 34, 35, 36, 37, 38] (by decide +kernel) (by decide +kernel)
set_option maxRecDepth 20000 in
theorem gX8_fault_X8_takesSign : GoodIn wsX8_fault (wsV RX8 126 RX8 yX8_takesSign wsX8_takesSign) := goodIn_app (goodIn_of _ (by decide +kernel)) ggX8_fault_X8_takesSign
theorem dX8_fault_0 : decode cX8_fault 0 = .ok (.aload_n 0, 1) := by decide +kernel
theorem dX8_fault_1 : decode cX8_fault 1 = .ok (.iconst 0, 1) := by decide +kernel
theorem dX8_fault_2 : decode cX8_fault 2 = .ok (.putfield 116, 3) := by decide +kernel
theorem dX8_fault_5 : decode cX8_fault 5 = .ok (.aload_n 0, 1) := by decide +kernel
theorem dX8_fault_6 : decode cX8_fault 6 = .ok (.iconst 0, 1) := by decide +kernel
theorem dX8_fault_7 : decode cX8_fault 7 = .ok (.putfield 54, 3) := by decide +kernel
theorem dX8_fault_10 : decode cX8_fault 10 = .ok (.iconst 1, 1) := by decide +kernel
theorem dX8_fault_11 : decode cX8_fault 11 = .ok (.istore_n 1, 1) := by decide +kernel
theorem dX8_fault_12 : decode cX8_fault 12 = .ok (.iload_n 1, 1) := by decide +kernel
theorem dX8_fault_13 : decode cX8_fault 13 = .ok (.ifCond .eq 52, 3) := by decide +kernel
theorem dX8_fault_16 : decode cX8_fault 16 = .ok (.aload_n 0, 1) := by decide +kernel
theorem dX8_fault_17 : decode cX8_fault 17 = .ok (.invokevirtual 129, 3) := by decide +kernel
theorem dX8_fault_20 : decode cX8_fault 20 = .ok (.ifCond .ne 8, 3) := by decide +kernel
theorem dX8_fault_23 : decode cX8_fault 23 = .ok (.aload_n 0, 1) := by decide +kernel
theorem dX8_fault_24 : decode cX8_fault 24 = .ok (.getfield 116, 3) := by decide +kernel
theorem dX8_fault_27 : decode cX8_fault 27 = .ok (.ireturn, 1) := by decide +kernel
theorem dX8_fault_28 : decode cX8_fault 28 = .ok (.aload_n 0, 1) := by decide +kernel
theorem dX8_fault_29 : decode cX8_fault 29 = .ok (.dup, 1) := by decide +kernel
theorem dX8_fault_30 : decode cX8_fault 30 = .ok (.getfield 54, 3) := by decide +kernel
theorem dX8_fault_33 : decode cX8_fault 33 = .ok (.iconst 1, 1) := by decide +kernel
theorem dX8_fault_34 : decode cX8_fault 34 = .ok (.iadd, 1) := by decide +kernel
theorem dX8_fault_35 : decode cX8_fault 35 = .ok (.putfield 54, 3) := by decide +kernel
theorem dX8_fault_38 : decode cX8_fault 38 = .ok (.aload_n 0, 1) := by decide +kernel
theorem dX8_fault_39 : decode cX8_fault 39 = .ok (.getfield 54, 3) := by decide +kernel
theorem dX8_fault_42 : decode cX8_fault 42 = .ok (.bipush 30, 2) := by decide +kernel
theorem dX8_fault_44 : decode cX8_fault 44 = .ok (.if_icmp .ge 16, 3) := by decide +kernel
theorem dX8_fault_47 : decode cX8_fault 47 = .ok (.aload_n 0, 1) := by decide +kernel
theorem dX8_fault_48 : decode cX8_fault 48 = .ok (.bipush 44, 2) := by decide +kernel
theorem dX8_fault_50 : decode cX8_fault 50 = .ok (.invokevirtual 126, 3) := by decide +kernel
theorem dX8_fault_53 : decode cX8_fault 53 = .ok (.ifCond .eq 7, 3) := by decide +kernel
theorem dX8_fault_56 : decode cX8_fault 56 = .ok (.iconst 1, 1) := by decide +kernel
theorem dX8_fault_57 : decode cX8_fault 57 = .ok (.goto 4, 3) := by decide +kernel
theorem dX8_fault_60 : decode cX8_fault 60 = .ok (.iconst 0, 1) := by decide +kernel
theorem dX8_fault_61 : decode cX8_fault 61 = .ok (.istore_n 1, 1) := by decide +kernel
theorem dX8_fault_62 : decode cX8_fault 62 = .ok (.goto (-50), 3) := by decide +kernel
theorem dX8_fault_65 : decode cX8_fault 65 = .ok (.aload_n 0, 1) := by decide +kernel
theorem dX8_fault_66 : decode cX8_fault 66 = .ok (.getfield 116, 3) := by decide +kernel
theorem dX8_fault_69 : decode cX8_fault 69 = .ok (.aload_n 0, 1) := by decide +kernel
theorem dX8_fault_70 : decode cX8_fault 70 = .ok (.getfield 113, 3) := by decide +kernel
theorem dX8_fault_73 : decode cX8_fault 73 = .ok (.if_icmp .ne 8, 3) := by decide +kernel
theorem dX8_fault_76 : decode cX8_fault 76 = .ok (.bipush (-5), 2) := by decide +kernel
theorem dX8_fault_78 : decode cX8_fault 78 = .ok (.goto 7, 3) := by decide +kernel
theorem dX8_fault_81 : decode cX8_fault 81 = .ok (.aload_n 0, 1) := by decide +kernel
theorem dX8_fault_82 : decode cX8_fault 82 = .ok (.getfield 116, 3) := by decide +kernel
theorem dX8_fault_85 : decode cX8_fault 85 = .ok (.ireturn, 1) := by decide +kernel
set_option maxRecDepth 20000 in
theorem ggX8_undo_X8_lays : GoodIn wsX8_undo wsX8_lays := goodIn_r _ [7] (by decide +kernel) (by decide +kernel)
set_option maxRecDepth 20000 in
theorem gX8_undo_X8_lays : GoodIn wsX8_undo (va_wsS RX8 39 yX8_lays wsX8_lays) := goodIn_app (goodIn_of _ (by decide +kernel)) ggX8_undo_X8_lays
theorem dX8_undo_0 : decode cX8_undo 0 = .ok (.aload_n 0, 1) := by decide +kernel
theorem dX8_undo_1 : decode cX8_undo 1 = .ok (.getfield 35, 3) := by decide +kernel
theorem dX8_undo_4 : decode cX8_undo 4 = .ok (.ifCond .ne 6, 3) := by decide +kernel
theorem dX8_undo_7 : decode cX8_undo 7 = .ok (.bipush (-5), 2) := by decide +kernel
theorem dX8_undo_9 : decode cX8_undo 9 = .ok (.ireturn, 1) := by decide +kernel
theorem dX8_undo_10 : decode cX8_undo 10 = .ok (.aload_n 0, 1) := by decide +kernel
theorem dX8_undo_11 : decode cX8_undo 11 = .ok (.dup, 1) := by decide +kernel
theorem dX8_undo_12 : decode cX8_undo 12 = .ok (.getfield 35, 3) := by decide +kernel
theorem dX8_undo_15 : decode cX8_undo 15 = .ok (.iconst 1, 1) := by decide +kernel
theorem dX8_undo_16 : decode cX8_undo 16 = .ok (.isub, 1) := by decide +kernel
theorem dX8_undo_17 : decode cX8_undo 17 = .ok (.putfield 35, 3) := by decide +kernel
theorem dX8_undo_20 : decode cX8_undo 20 = .ok (.aload_n 0, 1) := by decide +kernel
theorem dX8_undo_21 : decode cX8_undo 21 = .ok (.getfield 16, 3) := by decide +kernel
theorem dX8_undo_24 : decode cX8_undo 24 = .ok (.sipush 532, 3) := by decide +kernel
theorem dX8_undo_27 : decode cX8_undo 27 = .ok (.aload_n 0, 1) := by decide +kernel
theorem dX8_undo_28 : decode cX8_undo 28 = .ok (.getfield 35, 3) := by decide +kernel
theorem dX8_undo_31 : decode cX8_undo 31 = .ok (.imul, 1) := by decide +kernel
theorem dX8_undo_32 : decode cX8_undo 32 = .ok (.aload_n 0, 1) := by decide +kernel
theorem dX8_undo_33 : decode cX8_undo 33 = .ok (.getfield 7, 3) := by decide +kernel
theorem dX8_undo_36 : decode cX8_undo 36 = .ok (.iconst 0, 1) := by decide +kernel
theorem dX8_undo_37 : decode cX8_undo 37 = .ok (.invokestatic 39, 3) := by decide +kernel
theorem dX8_undo_40 : decode cX8_undo 40 = .ok (.aload_n 0, 1) := by decide +kernel
theorem dX8_undo_41 : decode cX8_undo 41 = .ok (.getfield 35, 3) := by decide +kernel
theorem dX8_undo_44 : decode cX8_undo 44 = .ok (.ireturn, 1) := by decide +kernel
set_option maxRecDepth 20000 in
theorem ggX8_keep_X8_lays : GoodIn wsX8_keep wsX8_lays := goodIn_r _ [7] (by decide +kernel) (by decide +kernel)
set_option maxRecDepth 20000 in
theorem gX8_keep_X8_lays : GoodIn wsX8_keep (va_wsS RX8 39 yX8_lays wsX8_lays) := goodIn_app (goodIn_of _ (by decide +kernel)) ggX8_keep_X8_lays
theorem dX8_keep_0 : decode cX8_keep 0 = .ok (.aload_n 0, 1) := by decide +kernel
theorem dX8_keep_1 : decode cX8_keep 1 = .ok (.getfield 7, 3) := by decide +kernel
theorem dX8_keep_4 : decode cX8_keep 4 = .ok (.iconst 0, 1) := by decide +kernel
theorem dX8_keep_5 : decode cX8_keep 5 = .ok (.aload_n 0, 1) := by decide +kernel
theorem dX8_keep_6 : decode cX8_keep 6 = .ok (.getfield 19, 3) := by decide +kernel
theorem dX8_keep_9 : decode cX8_keep 9 = .ok (.iconst 0, 1) := by decide +kernel
theorem dX8_keep_10 : decode cX8_keep 10 = .ok (.invokestatic 39, 3) := by decide +kernel
theorem dX8_keep_13 : decode cX8_keep 13 = .ok (.aload_n 0, 1) := by decide +kernel
theorem dX8_keep_14 : decode cX8_keep 14 = .ok (.iconst 1, 1) := by decide +kernel
theorem dX8_keep_15 : decode cX8_keep 15 = .ok (.putfield 132, 3) := by decide +kernel
theorem dX8_keep_18 : decode cX8_keep 18 = .ok (.aload_n 0, 1) := by decide +kernel
theorem dX8_keep_19 : decode cX8_keep 19 = .ok (.getfield 7, 3) := by decide +kernel
theorem dX8_keep_22 : decode cX8_keep 22 = .ok (.iconst 2, 1) := by decide +kernel
theorem dX8_keep_23 : decode cX8_keep 23 = .ok (.iaload, 1) := by decide +kernel
theorem dX8_keep_24 : decode cX8_keep 24 = .ok (.ireturn, 1) := by decide +kernel
set_option maxRecDepth 20000 in
theorem ggX8_restore_X8_records : GoodIn wsX8_restore wsX8_records := goodIn_r _ [8, 9, 10, 11, 12, 7, 13, 14, 15, 16, 17, 18, 19, 20, 21, 22, 23, 24, 25, 26] (by decide +kernel) (by decide +kernel)
set_option maxRecDepth 20000 in
theorem gX8_restore_X8_records : GoodIn wsX8_restore (wsV RX8 47 RX8 yX8_records wsX8_records) := goodIn_app (goodIn_of _ (by decide +kernel)) ggX8_restore_X8_records
set_option maxRecDepth 20000 in
theorem ggX8_restore_X8_lays : GoodIn wsX8_restore wsX8_lays := goodIn_r _ [13] (by decide +kernel) (by decide +kernel)
set_option maxRecDepth 20000 in
theorem gX8_restore_X8_lays : GoodIn wsX8_restore (va_wsS RX8 39 yX8_lays wsX8_lays) := goodIn_app (goodIn_of _ (by decide +kernel)) ggX8_restore_X8_lays
theorem dX8_restore_0 : decode cX8_restore 0 = .ok (.aload_n 0, 1) := by decide +kernel
theorem dX8_restore_1 : decode cX8_restore 1 = .ok (.getfield 132, 3) := by decide +kernel
theorem dX8_restore_4 : decode cX8_restore 4 = .ok (.ifCond .ne 6, 3) := by decide +kernel
theorem dX8_restore_7 : decode cX8_restore 7 = .ok (.bipush (-5), 2) := by decide +kernel
theorem dX8_restore_9 : decode cX8_restore 9 = .ok (.ireturn, 1) := by decide +kernel
theorem dX8_restore_10 : decode cX8_restore 10 = .ok (.aload_n 0, 1) := by decide +kernel
theorem dX8_restore_11 : decode cX8_restore 11 = .ok (.aload_n 0, 1) := by decide +kernel
theorem dX8_restore_12 : decode cX8_restore 12 = .ok (.getfield 7, 3) := by decide +kernel
theorem dX8_restore_15 : decode cX8_restore 15 = .ok (.invokevirtual 47, 3) := by decide +kernel
theorem dX8_restore_18 : decode cX8_restore 18 = .ok (.aload_n 0, 1) := by decide +kernel
theorem dX8_restore_19 : decode cX8_restore 19 = .ok (.getfield 19, 3) := by decide +kernel
theorem dX8_restore_22 : decode cX8_restore 22 = .ok (.iconst 0, 1) := by decide +kernel
theorem dX8_restore_23 : decode cX8_restore 23 = .ok (.aload_n 0, 1) := by decide +kernel
theorem dX8_restore_24 : decode cX8_restore 24 = .ok (.getfield 7, 3) := by decide +kernel
theorem dX8_restore_27 : decode cX8_restore 27 = .ok (.iconst 0, 1) := by decide +kernel
theorem dX8_restore_28 : decode cX8_restore 28 = .ok (.invokestatic 39, 3) := by decide +kernel
theorem dX8_restore_31 : decode cX8_restore 31 = .ok (.aload_n 0, 1) := by decide +kernel
theorem dX8_restore_32 : decode cX8_restore 32 = .ok (.getfield 7, 3) := by decide +kernel
theorem dX8_restore_35 : decode cX8_restore 35 = .ok (.iconst 2, 1) := by decide +kernel
theorem dX8_restore_36 : decode cX8_restore 36 = .ok (.iaload, 1) := by decide +kernel
theorem dX8_restore_37 : decode cX8_restore 37 = .ok (.ireturn, 1) := by decide +kernel
set_option maxRecDepth 20000 in
theorem ggX8_leaf_X8_in : GoodIn wsX8_leaf wsX8_in := goodIn_r _ [5] (by decide +kernel) (by decide +kernel)
set_option maxRecDepth 20000 in
theorem gX8_leaf_X8_in : GoodIn wsX8_leaf (va_wsS RX8 61 yX8_in wsX8_in) := goodIn_app (goodIn_of _ (by decide +kernel)) ggX8_leaf_X8_in
theorem dX8_leaf_0 : decode cX8_leaf 0 = .ok (.iload_n 1, 1) := by decide +kernel
theorem dX8_leaf_1 : decode cX8_leaf 1 = .ok (.iconst 0, 1) := by decide +kernel
theorem dX8_leaf_2 : decode cX8_leaf 2 = .ok (.aload_n 0, 1) := by decide +kernel
theorem dX8_leaf_3 : decode cX8_leaf 3 = .ok (.getfield 7, 3) := by decide +kernel
theorem dX8_leaf_6 : decode cX8_leaf 6 = .ok (.iconst 0, 1) := by decide +kernel
theorem dX8_leaf_7 : decode cX8_leaf 7 = .ok (.iaload, 1) := by decide +kernel
theorem dX8_leaf_8 : decode cX8_leaf 8 = .ok (.iconst 1, 1) := by decide +kernel
theorem dX8_leaf_9 : decode cX8_leaf 9 = .ok (.isub, 1) := by decide +kernel
theorem dX8_leaf_10 : decode cX8_leaf 10 = .ok (.invokestatic 61, 3) := by decide +kernel
theorem dX8_leaf_13 : decode cX8_leaf 13 = .ok (.ifCond .ne 5, 3) := by decide +kernel
theorem dX8_leaf_16 : decode cX8_leaf 16 = .ok (.iconst (-1), 1) := by decide +kernel
theorem dX8_leaf_17 : decode cX8_leaf 17 = .ok (.ireturn, 1) := by decide +kernel
theorem dX8_leaf_18 : decode cX8_leaf 18 = .ok (.iload_n 2, 1) := by decide +kernel
theorem dX8_leaf_19 : decode cX8_leaf 19 = .ok (.tableswitch 61 0 2 #[25, 35, 45], 25) := by decide +kernel
theorem dX8_leaf_44 : decode cX8_leaf 44 = .ok (.aload_n 0, 1) := by decide +kernel
theorem dX8_leaf_45 : decode cX8_leaf 45 = .ok (.getfield 7, 3) := by decide +kernel
theorem dX8_leaf_48 : decode cX8_leaf 48 = .ok (.bipush 12, 2) := by decide +kernel
theorem dX8_leaf_50 : decode cX8_leaf 50 = .ok (.iload_n 1, 1) := by decide +kernel
theorem dX8_leaf_51 : decode cX8_leaf 51 = .ok (.iadd, 1) := by decide +kernel
theorem dX8_leaf_52 : decode cX8_leaf 52 = .ok (.iaload, 1) := by decide +kernel
theorem dX8_leaf_53 : decode cX8_leaf 53 = .ok (.ireturn, 1) := by decide +kernel
theorem dX8_leaf_54 : decode cX8_leaf 54 = .ok (.aload_n 0, 1) := by decide +kernel
theorem dX8_leaf_55 : decode cX8_leaf 55 = .ok (.getfield 7, 3) := by decide +kernel
theorem dX8_leaf_58 : decode cX8_leaf 58 = .ok (.bipush 42, 2) := by decide +kernel
theorem dX8_leaf_60 : decode cX8_leaf 60 = .ok (.iload_n 1, 1) := by decide +kernel
theorem dX8_leaf_61 : decode cX8_leaf 61 = .ok (.iadd, 1) := by decide +kernel
theorem dX8_leaf_62 : decode cX8_leaf 62 = .ok (.iaload, 1) := by decide +kernel
theorem dX8_leaf_63 : decode cX8_leaf 63 = .ok (.ireturn, 1) := by decide +kernel
theorem dX8_leaf_64 : decode cX8_leaf 64 = .ok (.iload_n 1, 1) := by decide +kernel
theorem dX8_leaf_65 : decode cX8_leaf 65 = .ok (.aload_n 0, 1) := by decide +kernel
theorem dX8_leaf_66 : decode cX8_leaf 66 = .ok (.getfield 7, 3) := by decide +kernel
theorem dX8_leaf_69 : decode cX8_leaf 69 = .ok (.iconst 1, 1) := by decide +kernel
theorem dX8_leaf_70 : decode cX8_leaf 70 = .ok (.iaload, 1) := by decide +kernel
theorem dX8_leaf_71 : decode cX8_leaf 71 = .ok (.if_icmp .ge 7, 3) := by decide +kernel
theorem dX8_leaf_74 : decode cX8_leaf 74 = .ok (.iconst 1, 1) := by decide +kernel
theorem dX8_leaf_75 : decode cX8_leaf 75 = .ok (.goto 4, 3) := by decide +kernel
theorem dX8_leaf_78 : decode cX8_leaf 78 = .ok (.iconst 0, 1) := by decide +kernel
theorem dX8_leaf_79 : decode cX8_leaf 79 = .ok (.ireturn, 1) := by decide +kernel
theorem dX8_leaf_80 : decode cX8_leaf 80 = .ok (.bipush (-2), 2) := by decide +kernel
theorem dX8_leaf_82 : decode cX8_leaf 82 = .ok (.ireturn, 1) := by decide +kernel
set_option maxRecDepth 20000 in
theorem ggX8_page_X8_isPage : GoodIn wsX8_page wsX8_isPage := goodIn_r _ [7, 1, 8, 9, 6, 10, 35, 36, 37, 38, 39, 40, 41, 42, 43, 44, 45, 46, 47] (by decide +kernel) (by decide +kernel)
set_option maxRecDepth 20000 in
theorem gX8_page_X8_isPage : GoodIn wsX8_page (wsV RX8 65 RX8 yX8_isPage wsX8_isPage) := goodIn_app (goodIn_of _ (by decide +kernel)) ggX8_page_X8_isPage
set_option maxRecDepth 20000 in
theorem ggX8_page_X8_guessesAll : GoodIn wsX8_page wsX8_guessesAll := goodIn_r _ [14, 2, 1, 15, 16, 17, 18, 6, 19, 20, 21, 22, 23, 3, 4, 5, 7, 8, 9, 10, 35, 36, 37, 38, 39, 40, 41, 42, 43, 44, 45, 46, 47] (by decide +kernel) (by decide +kernel)
set_option maxRecDepth 20000 in
theorem gX8_page_X8_guessesAll : GoodIn wsX8_page (wsV RX8 136 RX8 yX8_guessesAll wsX8_guessesAll) := goodIn_app (goodIn_of _ (by decide +kernel)) ggX8_page_X8_guessesAll
set_option maxRecDepth 20000 in
theorem ggX8_page_X8_shownBy : GoodIn wsX8_page wsX8_shownBy := goodIn_r _ [27, 1, 20, 21, 22, 6, 23, 35, 36, 37, 38, 39, 40, 41, 42, 43, 44, 45, 46, 47] (by decide +kernel) (by decide +kernel)
set_option maxRecDepth 20000 in
theorem gX8_page_X8_shownBy : GoodIn wsX8_page (wsV RX8 139 RX8 yX8_shownBy wsX8_shownBy) := goodIn_app (goodIn_of _ (by decide +kernel)) ggX8_page_X8_shownBy
set_option maxRecDepth 20000 in
theorem ggX8_page_X8_isDoubtful : GoodIn wsX8_page wsX8_isDoubtful := goodIn_r _ [31, 2, 20, 21, 22, 6, 23, 1, 35, 36, 37, 38, 39, 40, 41, 42, 43, 44, 45, 46, 47] (by decide +kernel) (by decide +kernel)
set_option maxRecDepth 20000 in
theorem gX8_page_X8_isDoubtful : GoodIn wsX8_page (wsV RX8 142 RX8 yX8_isDoubtful wsX8_isDoubtful) := goodIn_app (goodIn_of _ (by decide +kernel)) ggX8_page_X8_isDoubtful
set_option maxRecDepth 20000 in
theorem ggX8_page_X8_isGood : GoodIn wsX8_page wsX8_isGood := goodIn_r _ [34] (by decide +kernel) (by decide +kernel)
set_option maxRecDepth 20000 in
theorem gX8_page_X8_isGood : GoodIn wsX8_page (va_wsS RX8 92 yX8_isGood wsX8_isGood) := goodIn_app (goodIn_of _ (by decide +kernel)) ggX8_page_X8_isGood
theorem dX8_page_0 : decode cX8_page 0 = .ok (.aload_n 0, 1) := by decide +kernel
theorem dX8_page_1 : decode cX8_page 1 = .ok (.iload_n 1, 1) := by decide +kernel
theorem dX8_page_2 : decode cX8_page 2 = .ok (.invokevirtual 65, 3) := by decide +kernel
theorem dX8_page_5 : decode cX8_page 5 = .ok (.ifCond .ne 5, 3) := by decide +kernel
theorem dX8_page_8 : decode cX8_page 8 = .ok (.iconst (-1), 1) := by decide +kernel
theorem dX8_page_9 : decode cX8_page 9 = .ok (.ireturn, 1) := by decide +kernel
theorem dX8_page_10 : decode cX8_page 10 = .ok (.aload_n 0, 1) := by decide +kernel
theorem dX8_page_11 : decode cX8_page 11 = .ok (.invokevirtual 136, 3) := by decide +kernel
theorem dX8_page_14 : decode cX8_page 14 = .ok (.iload_n 2, 1) := by decide +kernel
theorem dX8_page_15 : decode cX8_page 15 = .ok (.tableswitch 110 0 4 #[33, 43, 50, 56, 70], 33) := by decide +kernel
theorem dX8_page_48 : decode cX8_page 48 = .ok (.aload_n 0, 1) := by decide +kernel
theorem dX8_page_49 : decode cX8_page 49 = .ok (.getfield 7, 3) := by decide +kernel
theorem dX8_page_52 : decode cX8_page 52 = .ok (.bipush 72, 2) := by decide +kernel
theorem dX8_page_54 : decode cX8_page 54 = .ok (.iload_n 1, 1) := by decide +kernel
theorem dX8_page_55 : decode cX8_page 55 = .ok (.iadd, 1) := by decide +kernel
theorem dX8_page_56 : decode cX8_page 56 = .ok (.iaload, 1) := by decide +kernel
theorem dX8_page_57 : decode cX8_page 57 = .ok (.ireturn, 1) := by decide +kernel
theorem dX8_page_58 : decode cX8_page 58 = .ok (.aload_n 0, 1) := by decide +kernel
theorem dX8_page_59 : decode cX8_page 59 = .ok (.getfield 29, 3) := by decide +kernel
theorem dX8_page_62 : decode cX8_page 62 = .ok (.iload_n 1, 1) := by decide +kernel
theorem dX8_page_63 : decode cX8_page 63 = .ok (.iaload, 1) := by decide +kernel
theorem dX8_page_64 : decode cX8_page 64 = .ok (.ireturn, 1) := by decide +kernel
theorem dX8_page_65 : decode cX8_page 65 = .ok (.aload_n 0, 1) := by decide +kernel
theorem dX8_page_66 : decode cX8_page 66 = .ok (.iload_n 1, 1) := by decide +kernel
theorem dX8_page_67 : decode cX8_page 67 = .ok (.invokevirtual 139, 3) := by decide +kernel
theorem dX8_page_70 : decode cX8_page 70 = .ok (.ireturn, 1) := by decide +kernel
theorem dX8_page_71 : decode cX8_page 71 = .ok (.aload_n 0, 1) := by decide +kernel
theorem dX8_page_72 : decode cX8_page 72 = .ok (.iload_n 1, 1) := by decide +kernel
theorem dX8_page_73 : decode cX8_page 73 = .ok (.invokevirtual 142, 3) := by decide +kernel
theorem dX8_page_76 : decode cX8_page 76 = .ok (.ifCond .eq 7, 3) := by decide +kernel
theorem dX8_page_79 : decode cX8_page 79 = .ok (.iconst 1, 1) := by decide +kernel
theorem dX8_page_80 : decode cX8_page 80 = .ok (.goto 4, 3) := by decide +kernel
theorem dX8_page_83 : decode cX8_page 83 = .ok (.iconst 0, 1) := by decide +kernel
theorem dX8_page_84 : decode cX8_page 84 = .ok (.ireturn, 1) := by decide +kernel
theorem dX8_page_85 : decode cX8_page 85 = .ok (.aload_n 0, 1) := by decide +kernel
theorem dX8_page_86 : decode cX8_page 86 = .ok (.getfield 7, 3) := by decide +kernel
theorem dX8_page_89 : decode cX8_page 89 = .ok (.iload_n 1, 1) := by decide +kernel
theorem dX8_page_90 : decode cX8_page 90 = .ok (.iconst 2, 1) := by decide +kernel
theorem dX8_page_91 : decode cX8_page 91 = .ok (.irem, 1) := by decide +kernel
theorem dX8_page_92 : decode cX8_page 92 = .ok (.ifCond .ne 16, 3) := by decide +kernel
theorem dX8_page_95 : decode cX8_page 95 = .ok (.aload_n 0, 1) := by decide +kernel
theorem dX8_page_96 : decode cX8_page 96 = .ok (.getfield 7, 3) := by decide +kernel
theorem dX8_page_99 : decode cX8_page 99 = .ok (.iconst 0, 1) := by decide +kernel
theorem dX8_page_100 : decode cX8_page 100 = .ok (.iaload, 1) := by decide +kernel
theorem dX8_page_101 : decode cX8_page 101 = .ok (.iload_n 1, 1) := by decide +kernel
theorem dX8_page_102 : decode cX8_page 102 = .ok (.iconst 2, 1) := by decide +kernel
theorem dX8_page_103 : decode cX8_page 103 = .ok (.idiv, 1) := by decide +kernel
theorem dX8_page_104 : decode cX8_page 104 = .ok (.isub, 1) := by decide +kernel
theorem dX8_page_105 : decode cX8_page 105 = .ok (.goto 8, 3) := by decide +kernel
theorem dX8_page_108 : decode cX8_page 108 = .ok (.iload_n 1, 1) := by decide +kernel
theorem dX8_page_109 : decode cX8_page 109 = .ok (.iconst 2, 1) := by decide +kernel
theorem dX8_page_110 : decode cX8_page 110 = .ok (.idiv, 1) := by decide +kernel
theorem dX8_page_111 : decode cX8_page 111 = .ok (.iconst 1, 1) := by decide +kernel
theorem dX8_page_112 : decode cX8_page 112 = .ok (.iadd, 1) := by decide +kernel
theorem dX8_page_113 : decode cX8_page 113 = .ok (.invokestatic 92, 3) := by decide +kernel
theorem dX8_page_116 : decode cX8_page 116 = .ok (.ifCond .eq 7, 3) := by decide +kernel
theorem dX8_page_119 : decode cX8_page 119 = .ok (.iconst 1, 1) := by decide +kernel
theorem dX8_page_120 : decode cX8_page 120 = .ok (.goto 4, 3) := by decide +kernel
theorem dX8_page_123 : decode cX8_page 123 = .ok (.iconst 0, 1) := by decide +kernel
theorem dX8_page_124 : decode cX8_page 124 = .ok (.ireturn, 1) := by decide +kernel
theorem dX8_page_125 : decode cX8_page 125 = .ok (.bipush (-2), 2) := by decide +kernel
theorem dX8_page_127 : decode cX8_page 127 = .ok (.ireturn, 1) := by decide +kernel
set_option maxRecDepth 20000 in
theorem ggX8_picture_X8_isPicture : GoodIn wsX8_picture wsX8_isPicture := goodIn_r _ [6, 7, 8, 9, 5, 10, 32, 33, 34, 35, 36, 37, 38, 39, 40, 41, 42, 43, 44] (by decide +kernel) (by decide +kernel)
set_option maxRecDepth 20000 in
theorem gX8_picture_X8_isPicture : GoodIn wsX8_picture (wsV RX8 99 RX8 yX8_isPicture wsX8_isPicture) := goodIn_app (goodIn_of _ (by decide +kernel)) ggX8_picture_X8_isPicture
set_option maxRecDepth 20000 in
theorem ggX8_picture_X8_guessesAll : GoodIn wsX8_picture wsX8_guessesAll := goodIn_r _ [14, 15, 7, 1, 16, 17, 18, 5, 19, 20, 21, 22, 23, 24, 25, 26, 27, 8, 9, 10, 32, 33, 34, 35, 36, 37, 38, 39, 40, 41, 42, 43, 44] (by decide +kernel) (by decide +kernel)
set_option maxRecDepth 20000 in
theorem gX8_picture_X8_guessesAll : GoodIn wsX8_picture (wsV RX8 136 RX8 yX8_guessesAll wsX8_guessesAll) := goodIn_app (goodIn_of _ (by decide +kernel)) ggX8_picture_X8_guessesAll
set_option maxRecDepth 20000 in
theorem ggX8_picture_X8_ofPicture : GoodIn wsX8_picture wsX8_ofPicture := goodIn_r _ [23, 7, 32, 33, 34, 35, 36, 37, 38, 39, 40, 41, 42, 43, 44] (by decide +kernel) (by decide +kernel)
set_option maxRecDepth 20000 in
theorem gX8_picture_X8_ofPicture : GoodIn wsX8_picture (wsV RX8 106 RX8 yX8_ofPicture wsX8_ofPicture) := goodIn_app (goodIn_of _ (by decide +kernel)) ggX8_picture_X8_ofPicture
set_option maxRecDepth 20000 in
theorem ggX8_picture_X8_isSpare : GoodIn wsX8_picture wsX8_isSpare := goodIn_r _ [31, 1, 15, 32, 33, 34, 35, 36, 37, 38, 39, 40, 41, 42, 43, 44] (by decide +kernel) (by decide +kernel)
set_option maxRecDepth 20000 in
theorem gX8_picture_X8_isSpare : GoodIn wsX8_picture (wsV RX8 145 RX8 yX8_isSpare wsX8_isSpare) := goodIn_app (goodIn_of _ (by decide +kernel)) ggX8_picture_X8_isSpare
theorem dX8_picture_0 : decode cX8_picture 0 = .ok (.aload_n 0, 1) := by decide +kernel
theorem dX8_picture_1 : decode cX8_picture 1 = .ok (.iload_n 1, 1) := by decide +kernel
theorem dX8_picture_2 : decode cX8_picture 2 = .ok (.invokevirtual 99, 3) := by decide +kernel
theorem dX8_picture_5 : decode cX8_picture 5 = .ok (.ifCond .ne 5, 3) := by decide +kernel
theorem dX8_picture_8 : decode cX8_picture 8 = .ok (.iconst (-1), 1) := by decide +kernel
theorem dX8_picture_9 : decode cX8_picture 9 = .ok (.ireturn, 1) := by decide +kernel
theorem dX8_picture_10 : decode cX8_picture 10 = .ok (.aload_n 0, 1) := by decide +kernel
theorem dX8_picture_11 : decode cX8_picture 11 = .ok (.invokevirtual 136, 3) := by decide +kernel
theorem dX8_picture_14 : decode cX8_picture 14 = .ok (.iload_n 2, 1) := by decide +kernel
theorem dX8_picture_15 : decode cX8_picture 15 = .ok (.tableswitch 83 0 6 #[41, 41, 41, 48, 55, 69, 76], 41) := by decide +kernel
theorem dX8_picture_56 : decode cX8_picture 56 = .ok (.aload_n 0, 1) := by decide +kernel
theorem dX8_picture_57 : decode cX8_picture 57 = .ok (.iload_n 1, 1) := by decide +kernel
theorem dX8_picture_58 : decode cX8_picture 58 = .ok (.iload_n 2, 1) := by decide +kernel
theorem dX8_picture_59 : decode cX8_picture 59 = .ok (.invokevirtual 106, 3) := by decide +kernel
theorem dX8_picture_62 : decode cX8_picture 62 = .ok (.ireturn, 1) := by decide +kernel
theorem dX8_picture_63 : decode cX8_picture 63 = .ok (.aload_n 0, 1) := by decide +kernel
theorem dX8_picture_64 : decode cX8_picture 64 = .ok (.getfield 26, 3) := by decide +kernel
theorem dX8_picture_67 : decode cX8_picture 67 = .ok (.iload_n 1, 1) := by decide +kernel
theorem dX8_picture_68 : decode cX8_picture 68 = .ok (.iaload, 1) := by decide +kernel
theorem dX8_picture_69 : decode cX8_picture 69 = .ok (.ireturn, 1) := by decide +kernel
theorem dX8_picture_70 : decode cX8_picture 70 = .ok (.aload_n 0, 1) := by decide +kernel
theorem dX8_picture_71 : decode cX8_picture 71 = .ok (.iload_n 1, 1) := by decide +kernel
theorem dX8_picture_72 : decode cX8_picture 72 = .ok (.invokevirtual 145, 3) := by decide +kernel
theorem dX8_picture_75 : decode cX8_picture 75 = .ok (.ifCond .eq 7, 3) := by decide +kernel
theorem dX8_picture_78 : decode cX8_picture 78 = .ok (.iconst 1, 1) := by decide +kernel
theorem dX8_picture_79 : decode cX8_picture 79 = .ok (.goto 4, 3) := by decide +kernel
theorem dX8_picture_82 : decode cX8_picture 82 = .ok (.iconst 0, 1) := by decide +kernel
theorem dX8_picture_83 : decode cX8_picture 83 = .ok (.ireturn, 1) := by decide +kernel
theorem dX8_picture_84 : decode cX8_picture 84 = .ok (.aload_n 0, 1) := by decide +kernel
theorem dX8_picture_85 : decode cX8_picture 85 = .ok (.iload_n 1, 1) := by decide +kernel
theorem dX8_picture_86 : decode cX8_picture 86 = .ok (.iconst 4, 1) := by decide +kernel
theorem dX8_picture_87 : decode cX8_picture 87 = .ok (.invokevirtual 106, 3) := by decide +kernel
theorem dX8_picture_90 : decode cX8_picture 90 = .ok (.ireturn, 1) := by decide +kernel
theorem dX8_picture_91 : decode cX8_picture 91 = .ok (.aload_n 0, 1) := by decide +kernel
theorem dX8_picture_92 : decode cX8_picture 92 = .ok (.iload_n 1, 1) := by decide +kernel
theorem dX8_picture_93 : decode cX8_picture 93 = .ok (.iconst 3, 1) := by decide +kernel
theorem dX8_picture_94 : decode cX8_picture 94 = .ok (.invokevirtual 106, 3) := by decide +kernel
theorem dX8_picture_97 : decode cX8_picture 97 = .ok (.ireturn, 1) := by decide +kernel
theorem dX8_picture_98 : decode cX8_picture 98 = .ok (.bipush (-2), 2) := by decide +kernel
theorem dX8_picture_100 : decode cX8_picture 100 = .ok (.ireturn, 1) := by decide +kernel
set_option maxRecDepth 20000 in
theorem ggX8_open_X8_in : GoodIn wsX8_open wsX8_in := goodIn_r _ [5] (by decide +kernel) (by decide +kernel)
set_option maxRecDepth 20000 in
theorem gX8_open_X8_in : GoodIn wsX8_open (va_wsS RX8 61 yX8_in wsX8_in) := goodIn_app (goodIn_of _ (by decide +kernel)) ggX8_open_X8_in
set_option maxRecDepth 20000 in
theorem ggX8_open_X8_openOn : GoodIn wsX8_open wsX8_openOn := goodIn_r _ [8] (by decide +kernel) (by decide +kernel)
set_option maxRecDepth 20000 in
theorem gX8_open_X8_openOn : GoodIn wsX8_open (va_wsS RX8 85 yX8_openOn wsX8_openOn) := goodIn_app (goodIn_of _ (by decide +kernel)) ggX8_open_X8_openOn
theorem dX8_open_0 : decode cX8_open 0 = .ok (.iload_n 1, 1) := by decide +kernel
theorem dX8_open_1 : decode cX8_open 1 = .ok (.iconst 0, 1) := by decide +kernel
theorem dX8_open_2 : decode cX8_open 2 = .ok (.iconst 1, 1) := by decide +kernel
theorem dX8_open_3 : decode cX8_open 3 = .ok (.invokestatic 61, 3) := by decide +kernel
theorem dX8_open_6 : decode cX8_open 6 = .ok (.ifCond .eq 14, 3) := by decide +kernel
theorem dX8_open_9 : decode cX8_open 9 = .ok (.aload_n 0, 1) := by decide +kernel
theorem dX8_open_10 : decode cX8_open 10 = .ok (.getfield 7, 3) := by decide +kernel
theorem dX8_open_13 : decode cX8_open 13 = .ok (.iload_n 1, 1) := by decide +kernel
theorem dX8_open_14 : decode cX8_open 14 = .ok (.invokestatic 85, 3) := by decide +kernel
theorem dX8_open_17 : decode cX8_open 17 = .ok (.goto 5, 3) := by decide +kernel
theorem dX8_open_20 : decode cX8_open 20 = .ok (.bipush (-2), 2) := by decide +kernel
theorem dX8_open_22 : decode cX8_open 22 = .ok (.ireturn, 1) := by decide +kernel
set_option maxRecDepth 20000 in
theorem ggX8_would_X8_in : GoodIn wsX8_would wsX8_in := goodIn_r _ [5] (by decide +kernel) (by decide +kernel)
set_option maxRecDepth 20000 in
theorem gX8_would_X8_in : GoodIn wsX8_would (va_wsS RX8 61 yX8_in wsX8_in) := goodIn_app (goodIn_of _ (by decide +kernel)) ggX8_would_X8_in
set_option maxRecDepth 20000 in
theorem ggX8_would_X8_isRight : GoodIn wsX8_would wsX8_isRight := goodIn_r _ [9, 1, 13, 14, 15, 16, 17, 18, 19, 20, 21, 22, 23, 24, 25] (by decide +kernel) (by decide +kernel)
set_option maxRecDepth 20000 in
theorem gX8_would_X8_isRight : GoodIn wsX8_would (wsV RX8 77 RX8 yX8_isRight wsX8_isRight) := goodIn_app (goodIn_of _ (by decide +kernel)) ggX8_would_X8_isRight
set_option maxRecDepth 20000 in
theorem ggX8_would_X8_wouldTurn : GoodIn wsX8_would wsX8_wouldTurn := goodIn_r _ [12] (by decide +kernel) (by decide +kernel)
set_option maxRecDepth 20000 in
theorem gX8_would_X8_wouldTurn : GoodIn wsX8_would (va_wsS RX8 69 yX8_wouldTurn wsX8_wouldTurn) := goodIn_app (goodIn_of _ (by decide +kernel)) ggX8_would_X8_wouldTurn
theorem dX8_would_0 : decode cX8_would 0 = .ok (.iload_n 1, 1) := by decide +kernel
theorem dX8_would_1 : decode cX8_would 1 = .ok (.iconst 1, 1) := by decide +kernel
theorem dX8_would_2 : decode cX8_would 2 = .ok (.bipush 20, 2) := by decide +kernel
theorem dX8_would_4 : decode cX8_would 4 = .ok (.invokestatic 61, 3) := by decide +kernel
theorem dX8_would_7 : decode cX8_would 7 = .ok (.ifCond .ne 6, 3) := by decide +kernel
theorem dX8_would_10 : decode cX8_would 10 = .ok (.bipush (-2), 2) := by decide +kernel
theorem dX8_would_12 : decode cX8_would 12 = .ok (.ireturn, 1) := by decide +kernel
theorem dX8_would_13 : decode cX8_would 13 = .ok (.aload_n 0, 1) := by decide +kernel
theorem dX8_would_14 : decode cX8_would 14 = .ok (.invokevirtual 77, 3) := by decide +kernel
theorem dX8_would_17 : decode cX8_would 17 = .ok (.ifCond .eq 14, 3) := by decide +kernel
theorem dX8_would_20 : decode cX8_would 20 = .ok (.aload_n 0, 1) := by decide +kernel
theorem dX8_would_21 : decode cX8_would 21 = .ok (.getfield 7, 3) := by decide +kernel
theorem dX8_would_24 : decode cX8_would 24 = .ok (.iload_n 1, 1) := by decide +kernel
theorem dX8_would_25 : decode cX8_would 25 = .ok (.invokestatic 69, 3) := by decide +kernel
theorem dX8_would_28 : decode cX8_would 28 = .ok (.goto 5, 3) := by decide +kernel
theorem dX8_would_31 : decode cX8_would 31 = .ok (.bipush (-4), 2) := by decide +kernel
theorem dX8_would_33 : decode cX8_would 33 = .ok (.ireturn, 1) := by decide +kernel
set_option maxRecDepth 20000 in
theorem ggX8_best_X8_isRight : GoodIn wsX8_best wsX8_isRight := goodIn_r _ [6, 1, 10, 11, 12, 13, 14, 15, 16, 17, 18, 19, 20, 21, 22] (by decide +kernel) (by decide +kernel)
set_option maxRecDepth 20000 in
theorem gX8_best_X8_isRight : GoodIn wsX8_best (wsV RX8 77 RX8 yX8_isRight wsX8_isRight) := goodIn_app (goodIn_of _ (by decide +kernel)) ggX8_best_X8_isRight
set_option maxRecDepth 20000 in
theorem ggX8_best_X8_wouldTurn : GoodIn wsX8_best wsX8_wouldTurn := goodIn_r _ [9] (by decide +kernel) (by decide +kernel)
set_option maxRecDepth 20000 in
theorem gX8_best_X8_wouldTurn : GoodIn wsX8_best (va_wsS RX8 69 yX8_wouldTurn wsX8_wouldTurn) := goodIn_app (goodIn_of _ (by decide +kernel)) ggX8_best_X8_wouldTurn
theorem dX8_best_0 : decode cX8_best 0 = .ok (.aload_n 0, 1) := by decide +kernel
theorem dX8_best_1 : decode cX8_best 1 = .ok (.invokevirtual 77, 3) := by decide +kernel
theorem dX8_best_4 : decode cX8_best 4 = .ok (.ifCond .ne 6, 3) := by decide +kernel
theorem dX8_best_7 : decode cX8_best 7 = .ok (.bipush (-4), 2) := by decide +kernel
theorem dX8_best_9 : decode cX8_best 9 = .ok (.ireturn, 1) := by decide +kernel
theorem dX8_best_10 : decode cX8_best 10 = .ok (.iconst 1, 1) := by decide +kernel
theorem dX8_best_11 : decode cX8_best 11 = .ok (.istore_n 1, 1) := by decide +kernel
theorem dX8_best_12 : decode cX8_best 12 = .ok (.iload_n 1, 1) := by decide +kernel
theorem dX8_best_13 : decode cX8_best 13 = .ok (.bipush 20, 2) := by decide +kernel
theorem dX8_best_15 : decode cX8_best 15 = .ok (.if_icmp .gt 23, 3) := by decide +kernel
theorem dX8_best_18 : decode cX8_best 18 = .ok (.aload_n 0, 1) := by decide +kernel
theorem dX8_best_19 : decode cX8_best 19 = .ok (.getfield 7, 3) := by decide +kernel
theorem dX8_best_22 : decode cX8_best 22 = .ok (.iload_n 1, 1) := by decide +kernel
theorem dX8_best_23 : decode cX8_best 23 = .ok (.invokestatic 69, 3) := by decide +kernel
theorem dX8_best_26 : decode cX8_best 26 = .ok (.iconst 1, 1) := by decide +kernel
theorem dX8_best_27 : decode cX8_best 27 = .ok (.if_icmp .ne 5, 3) := by decide +kernel
theorem dX8_best_30 : decode cX8_best 30 = .ok (.iload_n 1, 1) := by decide +kernel
theorem dX8_best_31 : decode cX8_best 31 = .ok (.ireturn, 1) := by decide +kernel
theorem dX8_best_32 : decode cX8_best 32 = .ok (.iinc 1 1, 3) := by decide +kernel
theorem dX8_best_35 : decode cX8_best 35 = .ok (.goto (-23), 3) := by decide +kernel
theorem dX8_best_38 : decode cX8_best 38 = .ok (.bipush (-5), 2) := by decide +kernel
theorem dX8_best_40 : decode cX8_best 40 = .ok (.ireturn, 1) := by decide +kernel
set_option maxRecDepth 20000 in
theorem ggX8_lacking_X8_guessesAll : GoodIn wsX8_lacking wsX8_guessesAll := goodIn_r _ [7, 2, 1, 8, 9, 10, 11, 6, 12, 13, 14, 15, 16, 17, 18, 19, 20, 21, 22, 23, 24, 25, 26, 27, 28, 29, 30, 31, 32, 33, 34, 35, 36] (by decide +kernel) (by decide +kernel)
set_option maxRecDepth 20000 in
theorem gX8_lacking_X8_guessesAll : GoodIn wsX8_lacking (wsV RX8 136 RX8 yX8_guessesAll wsX8_guessesAll) := goodIn_app (goodIn_of _ (by decide +kernel)) ggX8_lacking_X8_guessesAll
theorem dX8_lacking_0 : decode cX8_lacking 0 = .ok (.iload_n 1, 1) := by decide +kernel
theorem dX8_lacking_1 : decode cX8_lacking 1 = .ok (.ifCond .ge 6, 3) := by decide +kernel
theorem dX8_lacking_4 : decode cX8_lacking 4 = .ok (.bipush (-2), 2) := by decide +kernel
theorem dX8_lacking_6 : decode cX8_lacking 6 = .ok (.ireturn, 1) := by decide +kernel
theorem dX8_lacking_7 : decode cX8_lacking 7 = .ok (.aload_n 0, 1) := by decide +kernel
theorem dX8_lacking_8 : decode cX8_lacking 8 = .ok (.invokevirtual 136, 3) := by decide +kernel
theorem dX8_lacking_11 : decode cX8_lacking 11 = .ok (.iload_n 1, 1) := by decide +kernel
theorem dX8_lacking_12 : decode cX8_lacking 12 = .ok (.istore_n 2, 1) := by decide +kernel
theorem dX8_lacking_13 : decode cX8_lacking 13 = .ok (.iconst 0, 1) := by decide +kernel
theorem dX8_lacking_14 : decode cX8_lacking 14 = .ok (.istore_n 3, 1) := by decide +kernel
theorem dX8_lacking_15 : decode cX8_lacking 15 = .ok (.iload_n 3, 1) := by decide +kernel
theorem dX8_lacking_16 : decode cX8_lacking 16 = .ok (.iconst 2, 1) := by decide +kernel
theorem dX8_lacking_17 : decode cX8_lacking 17 = .ok (.aload_n 0, 1) := by decide +kernel
theorem dX8_lacking_18 : decode cX8_lacking 18 = .ok (.getfield 7, 3) := by decide +kernel
theorem dX8_lacking_21 : decode cX8_lacking 21 = .ok (.iconst 0, 1) := by decide +kernel
theorem dX8_lacking_22 : decode cX8_lacking 22 = .ok (.iaload, 1) := by decide +kernel
theorem dX8_lacking_23 : decode cX8_lacking 23 = .ok (.imul, 1) := by decide +kernel
theorem dX8_lacking_24 : decode cX8_lacking 24 = .ok (.if_icmp .ge 29, 3) := by decide +kernel
theorem dX8_lacking_27 : decode cX8_lacking 27 = .ok (.aload_n 0, 1) := by decide +kernel
theorem dX8_lacking_28 : decode cX8_lacking 28 = .ok (.getfield 29, 3) := by decide +kernel
theorem dX8_lacking_31 : decode cX8_lacking 31 = .ok (.iload_n 3, 1) := by decide +kernel
theorem dX8_lacking_32 : decode cX8_lacking 32 = .ok (.iaload, 1) := by decide +kernel
theorem dX8_lacking_33 : decode cX8_lacking 33 = .ok (.bipush (-5), 2) := by decide +kernel
theorem dX8_lacking_35 : decode cX8_lacking 35 = .ok (.if_icmp .ne 12, 3) := by decide +kernel
theorem dX8_lacking_38 : decode cX8_lacking 38 = .ok (.iload_n 2, 1) := by decide +kernel
theorem dX8_lacking_39 : decode cX8_lacking 39 = .ok (.ifCond .ne 5, 3) := by decide +kernel
theorem dX8_lacking_42 : decode cX8_lacking 42 = .ok (.iload_n 3, 1) := by decide +kernel
theorem dX8_lacking_43 : decode cX8_lacking 43 = .ok (.ireturn, 1) := by decide +kernel
theorem dX8_lacking_44 : decode cX8_lacking 44 = .ok (.iinc 2 (-1), 3) := by decide +kernel
theorem dX8_lacking_47 : decode cX8_lacking 47 = .ok (.iinc 3 1, 3) := by decide +kernel
theorem dX8_lacking_50 : decode cX8_lacking 50 = .ok (.goto (-35), 3) := by decide +kernel
theorem dX8_lacking_53 : decode cX8_lacking 53 = .ok (.bipush (-5), 2) := by decide +kernel
theorem dX8_lacking_55 : decode cX8_lacking 55 = .ok (.ireturn, 1) := by decide +kernel
set_option maxRecDepth 20000 in
theorem ggX8_pages_X8_guessesAll : GoodIn wsX8_pages wsX8_guessesAll := goodIn_r _ [7, 2, 1, 8, 9, 10, 11, 6, 12, 13, 14, 15, 16, 17, 18, 19, 20, 21, 22, 23, 28, 29, 30, 31, 32, 33, 34, 35, 36, 37, 38, 39, 40] (by decide +kernel) (by decide +kernel)
set_option maxRecDepth 20000 in
theorem gX8_pages_X8_guessesAll : GoodIn wsX8_pages (wsV RX8 136 RX8 yX8_guessesAll wsX8_guessesAll) := goodIn_app (goodIn_of _ (by decide +kernel)) ggX8_pages_X8_guessesAll
set_option maxRecDepth 20000 in
theorem ggX8_pages_X8_isDoubtful : GoodIn wsX8_pages wsX8_isDoubtful := goodIn_r _ [27, 2, 13, 14, 15, 6, 16, 1, 28, 29, 30, 31, 32, 33, 34, 35, 36, 37, 38, 39, 40] (by decide +kernel) (by decide +kernel)
set_option maxRecDepth 20000 in
theorem gX8_pages_X8_isDoubtful : GoodIn wsX8_pages (wsV RX8 142 RX8 yX8_isDoubtful wsX8_isDoubtful) := goodIn_app (goodIn_of _ (by decide +kernel)) ggX8_pages_X8_isDoubtful
theorem dX8_pages_0 : decode cX8_pages 0 = .ok (.aload_n 0, 1) := by decide +kernel
theorem dX8_pages_1 : decode cX8_pages 1 = .ok (.invokevirtual 136, 3) := by decide +kernel
theorem dX8_pages_4 : decode cX8_pages 4 = .ok (.iconst 0, 1) := by decide +kernel
theorem dX8_pages_5 : decode cX8_pages 5 = .ok (.istore_n 2, 1) := by decide +kernel
theorem dX8_pages_6 : decode cX8_pages 6 = .ok (.iconst 0, 1) := by decide +kernel
theorem dX8_pages_7 : decode cX8_pages 7 = .ok (.istore_n 3, 1) := by decide +kernel
theorem dX8_pages_8 : decode cX8_pages 8 = .ok (.iload_n 3, 1) := by decide +kernel
theorem dX8_pages_9 : decode cX8_pages 9 = .ok (.iconst 2, 1) := by decide +kernel
theorem dX8_pages_10 : decode cX8_pages 10 = .ok (.aload_n 0, 1) := by decide +kernel
theorem dX8_pages_11 : decode cX8_pages 11 = .ok (.getfield 7, 3) := by decide +kernel
theorem dX8_pages_14 : decode cX8_pages 14 = .ok (.iconst 0, 1) := by decide +kernel
theorem dX8_pages_15 : decode cX8_pages 15 = .ok (.iaload, 1) := by decide +kernel
theorem dX8_pages_16 : decode cX8_pages 16 = .ok (.imul, 1) := by decide +kernel
theorem dX8_pages_17 : decode cX8_pages 17 = .ok (.if_icmp .ge 53, 3) := by decide +kernel
theorem dX8_pages_20 : decode cX8_pages 20 = .ok (.iload_n 1, 1) := by decide +kernel
theorem dX8_pages_21 : decode cX8_pages 21 = .ok (.iconst 3, 1) := by decide +kernel
theorem dX8_pages_22 : decode cX8_pages 22 = .ok (.if_icmp .ne 22, 3) := by decide +kernel
theorem dX8_pages_25 : decode cX8_pages 25 = .ok (.aload_n 0, 1) := by decide +kernel
theorem dX8_pages_26 : decode cX8_pages 26 = .ok (.getfield 29, 3) := by decide +kernel
theorem dX8_pages_29 : decode cX8_pages 29 = .ok (.iload_n 3, 1) := by decide +kernel
theorem dX8_pages_30 : decode cX8_pages 30 = .ok (.iaload, 1) := by decide +kernel
theorem dX8_pages_31 : decode cX8_pages 31 = .ok (.bipush (-5), 2) := by decide +kernel
theorem dX8_pages_33 : decode cX8_pages 33 = .ok (.if_icmp .ne 7, 3) := by decide +kernel
theorem dX8_pages_36 : decode cX8_pages 36 = .ok (.iconst 1, 1) := by decide +kernel
theorem dX8_pages_37 : decode cX8_pages 37 = .ok (.goto 12, 3) := by decide +kernel
theorem dX8_pages_40 : decode cX8_pages 40 = .ok (.iconst 0, 1) := by decide +kernel
theorem dX8_pages_41 : decode cX8_pages 41 = .ok (.goto 8, 3) := by decide +kernel
theorem dX8_pages_44 : decode cX8_pages 44 = .ok (.aload_n 0, 1) := by decide +kernel
theorem dX8_pages_45 : decode cX8_pages 45 = .ok (.iload_n 3, 1) := by decide +kernel
theorem dX8_pages_46 : decode cX8_pages 46 = .ok (.invokevirtual 142, 3) := by decide +kernel
theorem dX8_pages_49 : decode cX8_pages 49 = .ok (.istore 4, 2) := by decide +kernel
theorem dX8_pages_51 : decode cX8_pages 51 = .ok (.iload_n 2, 1) := by decide +kernel
theorem dX8_pages_52 : decode cX8_pages 52 = .ok (.iload 4, 2) := by decide +kernel
theorem dX8_pages_54 : decode cX8_pages 54 = .ok (.ifCond .eq 7, 3) := by decide +kernel
theorem dX8_pages_57 : decode cX8_pages 57 = .ok (.iconst 1, 1) := by decide +kernel
theorem dX8_pages_58 : decode cX8_pages 58 = .ok (.goto 4, 3) := by decide +kernel
theorem dX8_pages_61 : decode cX8_pages 61 = .ok (.iconst 0, 1) := by decide +kernel
theorem dX8_pages_62 : decode cX8_pages 62 = .ok (.iadd, 1) := by decide +kernel
theorem dX8_pages_63 : decode cX8_pages 63 = .ok (.istore_n 2, 1) := by decide +kernel
theorem dX8_pages_64 : decode cX8_pages 64 = .ok (.iinc 3 1, 3) := by decide +kernel
theorem dX8_pages_67 : decode cX8_pages 67 = .ok (.goto (-59), 3) := by decide +kernel
theorem dX8_pages_70 : decode cX8_pages 70 = .ok (.iload_n 2, 1) := by decide +kernel
theorem dX8_pages_71 : decode cX8_pages 71 = .ok (.ireturn, 1) := by decide +kernel
set_option maxRecDepth 20000 in
theorem ggX8_pictures_X8_guessesAll : GoodIn wsX8_pictures wsX8_guessesAll := goodIn_r _ [7, 8, 1, 2, 9, 10, 11, 6, 12, 13, 14, 15, 16, 17, 18, 19, 20, 21, 22, 23, 28, 29, 30, 31, 32, 33, 34, 35, 36, 37, 38, 39, 40] (by decide +kernel) (by decide +kernel)
set_option maxRecDepth 20000 in
theorem gX8_pictures_X8_guessesAll : GoodIn wsX8_pictures (wsV RX8 136 RX8 yX8_guessesAll wsX8_guessesAll) := goodIn_app (goodIn_of _ (by decide +kernel)) ggX8_pictures_X8_guessesAll
set_option maxRecDepth 20000 in
theorem ggX8_pictures_X8_isSpare : GoodIn wsX8_pictures wsX8_isSpare := goodIn_r _ [27, 2, 8, 28, 29, 30, 31, 32, 33, 34, 35, 36, 37, 38, 39, 40] (by decide +kernel) (by decide +kernel)
set_option maxRecDepth 20000 in
theorem gX8_pictures_X8_isSpare : GoodIn wsX8_pictures (wsV RX8 145 RX8 yX8_isSpare wsX8_isSpare) := goodIn_app (goodIn_of _ (by decide +kernel)) ggX8_pictures_X8_isSpare
theorem dX8_pictures_0 : decode cX8_pictures 0 = .ok (.aload_n 0, 1) := by decide +kernel
theorem dX8_pictures_1 : decode cX8_pictures 1 = .ok (.invokevirtual 136, 3) := by decide +kernel
theorem dX8_pictures_4 : decode cX8_pictures 4 = .ok (.iconst 0, 1) := by decide +kernel
theorem dX8_pictures_5 : decode cX8_pictures 5 = .ok (.istore_n 2, 1) := by decide +kernel
theorem dX8_pictures_6 : decode cX8_pictures 6 = .ok (.iconst 0, 1) := by decide +kernel
theorem dX8_pictures_7 : decode cX8_pictures 7 = .ok (.istore_n 3, 1) := by decide +kernel
theorem dX8_pictures_8 : decode cX8_pictures 8 = .ok (.iload_n 3, 1) := by decide +kernel
theorem dX8_pictures_9 : decode cX8_pictures 9 = .ok (.aload_n 0, 1) := by decide +kernel
theorem dX8_pictures_10 : decode cX8_pictures 10 = .ok (.getfield 7, 3) := by decide +kernel
theorem dX8_pictures_13 : decode cX8_pictures 13 = .ok (.iconst 2, 1) := by decide +kernel
theorem dX8_pictures_14 : decode cX8_pictures 14 = .ok (.iaload, 1) := by decide +kernel
theorem dX8_pictures_15 : decode cX8_pictures 15 = .ok (.if_icmp .ge 53, 3) := by decide +kernel
theorem dX8_pictures_18 : decode cX8_pictures 18 = .ok (.iload_n 1, 1) := by decide +kernel
theorem dX8_pictures_19 : decode cX8_pictures 19 = .ok (.iconst 5, 1) := by decide +kernel
theorem dX8_pictures_20 : decode cX8_pictures 20 = .ok (.if_icmp .ne 11, 3) := by decide +kernel
theorem dX8_pictures_23 : decode cX8_pictures 23 = .ok (.aload_n 0, 1) := by decide +kernel
theorem dX8_pictures_24 : decode cX8_pictures 24 = .ok (.iload_n 3, 1) := by decide +kernel
theorem dX8_pictures_25 : decode cX8_pictures 25 = .ok (.invokevirtual 145, 3) := by decide +kernel
theorem dX8_pictures_28 : decode cX8_pictures 28 = .ok (.goto 19, 3) := by decide +kernel
theorem dX8_pictures_31 : decode cX8_pictures 31 = .ok (.aload_n 0, 1) := by decide +kernel
theorem dX8_pictures_32 : decode cX8_pictures 32 = .ok (.getfield 26, 3) := by decide +kernel
theorem dX8_pictures_35 : decode cX8_pictures 35 = .ok (.iload_n 3, 1) := by decide +kernel
theorem dX8_pictures_36 : decode cX8_pictures 36 = .ok (.iaload, 1) := by decide +kernel
theorem dX8_pictures_37 : decode cX8_pictures 37 = .ok (.bipush (-5), 2) := by decide +kernel
theorem dX8_pictures_39 : decode cX8_pictures 39 = .ok (.if_icmp .ne 7, 3) := by decide +kernel
theorem dX8_pictures_42 : decode cX8_pictures 42 = .ok (.iconst 1, 1) := by decide +kernel
theorem dX8_pictures_43 : decode cX8_pictures 43 = .ok (.goto 4, 3) := by decide +kernel
theorem dX8_pictures_46 : decode cX8_pictures 46 = .ok (.iconst 0, 1) := by decide +kernel
theorem dX8_pictures_47 : decode cX8_pictures 47 = .ok (.istore 4, 2) := by decide +kernel
theorem dX8_pictures_49 : decode cX8_pictures 49 = .ok (.iload_n 2, 1) := by decide +kernel
theorem dX8_pictures_50 : decode cX8_pictures 50 = .ok (.iload 4, 2) := by decide +kernel
theorem dX8_pictures_52 : decode cX8_pictures 52 = .ok (.ifCond .eq 7, 3) := by decide +kernel
theorem dX8_pictures_55 : decode cX8_pictures 55 = .ok (.iconst 1, 1) := by decide +kernel
theorem dX8_pictures_56 : decode cX8_pictures 56 = .ok (.goto 4, 3) := by decide +kernel
theorem dX8_pictures_59 : decode cX8_pictures 59 = .ok (.iconst 0, 1) := by decide +kernel
theorem dX8_pictures_60 : decode cX8_pictures 60 = .ok (.iadd, 1) := by decide +kernel
theorem dX8_pictures_61 : decode cX8_pictures 61 = .ok (.istore_n 2, 1) := by decide +kernel
theorem dX8_pictures_62 : decode cX8_pictures 62 = .ok (.iinc 3 1, 3) := by decide +kernel
theorem dX8_pictures_65 : decode cX8_pictures 65 = .ok (.goto (-57), 3) := by decide +kernel
theorem dX8_pictures_68 : decode cX8_pictures 68 = .ok (.iload_n 2, 1) := by decide +kernel
theorem dX8_pictures_69 : decode cX8_pictures 69 = .ok (.ireturn, 1) := by decide +kernel
set_option maxRecDepth 20000 in
theorem ggX8_count_X8_pages : GoodIn wsX8_count wsX8_pages := goodIn_r _ [8, 1, 9, 10, 11, 12, 7, 13, 14, 15, 16, 17, 18, 19, 20, 21, 22, 23, 24, 25, 26, 27, 28, 29, 30, 31, 32, 33, 42, 43, 44, 45, 46, 47, 48, 49, 50, 51, 52, 53, 54] (by decide +kernel) (by decide +kernel)
set_option maxRecDepth 20000 in
theorem gX8_count_X8_pages : GoodIn wsX8_count (wsV RX8 148 RX8 yX8_pages wsX8_pages) := goodIn_app (goodIn_of _ (by decide +kernel)) ggX8_count_X8_pages
set_option maxRecDepth 20000 in
theorem ggX8_count_X8_pictures : GoodIn wsX8_count wsX8_pictures := goodIn_r _ [37, 1, 14, 10, 11, 12, 7, 13, 9, 15, 16, 17, 18, 19, 20, 21, 22, 23, 24, 25, 26, 27, 28, 29, 38, 39, 40, 41, 42, 43, 44, 45, 46, 47, 48, 49, 50, 51, 52, 53, 54] (by decide +kernel) (by decide +kernel)
set_option maxRecDepth 20000 in
theorem gX8_count_X8_pictures : GoodIn wsX8_count (wsV RX8 151 RX8 yX8_pictures wsX8_pictures) := goodIn_app (goodIn_of _ (by decide +kernel)) ggX8_count_X8_pictures
theorem dX8_count_0 : decode cX8_count 0 = .ok (.iload_n 1, 1) := by decide +kernel
theorem dX8_count_1 : decode cX8_count 1 = .ok (.tableswitch 144 0 16 #[83, 83, 83, 90, 90, 96, 96, 102, 102, 102, 114, 114, 114, 114, 127, 134, 139], 83) := by decide +kernel
theorem dX8_count_84 : decode cX8_count 84 = .ok (.aload_n 0, 1) := by decide +kernel
theorem dX8_count_85 : decode cX8_count 85 = .ok (.getfield 7, 3) := by decide +kernel
theorem dX8_count_88 : decode cX8_count 88 = .ok (.iload_n 1, 1) := by decide +kernel
theorem dX8_count_89 : decode cX8_count 89 = .ok (.iaload, 1) := by decide +kernel
theorem dX8_count_90 : decode cX8_count 90 = .ok (.ireturn, 1) := by decide +kernel
theorem dX8_count_91 : decode cX8_count 91 = .ok (.aload_n 0, 1) := by decide +kernel
theorem dX8_count_92 : decode cX8_count 92 = .ok (.iload_n 1, 1) := by decide +kernel
theorem dX8_count_93 : decode cX8_count 93 = .ok (.invokevirtual 148, 3) := by decide +kernel
theorem dX8_count_96 : decode cX8_count 96 = .ok (.ireturn, 1) := by decide +kernel
theorem dX8_count_97 : decode cX8_count 97 = .ok (.aload_n 0, 1) := by decide +kernel
theorem dX8_count_98 : decode cX8_count 98 = .ok (.iload_n 1, 1) := by decide +kernel
theorem dX8_count_99 : decode cX8_count 99 = .ok (.invokevirtual 151, 3) := by decide +kernel
theorem dX8_count_102 : decode cX8_count 102 = .ok (.ireturn, 1) := by decide +kernel
theorem dX8_count_103 : decode cX8_count 103 = .ok (.aload_n 0, 1) := by decide +kernel
theorem dX8_count_104 : decode cX8_count 104 = .ok (.getfield 7, 3) := by decide +kernel
theorem dX8_count_107 : decode cX8_count 107 = .ok (.iconst 4, 1) := by decide +kernel
theorem dX8_count_108 : decode cX8_count 108 = .ok (.iload_n 1, 1) := by decide +kernel
theorem dX8_count_109 : decode cX8_count 109 = .ok (.iadd, 1) := by decide +kernel
theorem dX8_count_110 : decode cX8_count 110 = .ok (.bipush 7, 2) := by decide +kernel
theorem dX8_count_112 : decode cX8_count 112 = .ok (.isub, 1) := by decide +kernel
theorem dX8_count_113 : decode cX8_count 113 = .ok (.iaload, 1) := by decide +kernel
theorem dX8_count_114 : decode cX8_count 114 = .ok (.ireturn, 1) := by decide +kernel
theorem dX8_count_115 : decode cX8_count 115 = .ok (.aload_n 0, 1) := by decide +kernel
theorem dX8_count_116 : decode cX8_count 116 = .ok (.getfield 7, 3) := by decide +kernel
theorem dX8_count_119 : decode cX8_count 119 = .ok (.bipush 8, 2) := by decide +kernel
theorem dX8_count_121 : decode cX8_count 121 = .ok (.iload_n 1, 1) := by decide +kernel
theorem dX8_count_122 : decode cX8_count 122 = .ok (.iadd, 1) := by decide +kernel
theorem dX8_count_123 : decode cX8_count 123 = .ok (.bipush 10, 2) := by decide +kernel
theorem dX8_count_125 : decode cX8_count 125 = .ok (.isub, 1) := by decide +kernel
theorem dX8_count_126 : decode cX8_count 126 = .ok (.iaload, 1) := by decide +kernel
theorem dX8_count_127 : decode cX8_count 127 = .ok (.ireturn, 1) := by decide +kernel
theorem dX8_count_128 : decode cX8_count 128 = .ok (.aload_n 0, 1) := by decide +kernel
theorem dX8_count_129 : decode cX8_count 129 = .ok (.getfield 7, 3) := by decide +kernel
theorem dX8_count_132 : decode cX8_count 132 = .ok (.iconst 3, 1) := by decide +kernel
theorem dX8_count_133 : decode cX8_count 133 = .ok (.iaload, 1) := by decide +kernel
theorem dX8_count_134 : decode cX8_count 134 = .ok (.ireturn, 1) := by decide +kernel
theorem dX8_count_135 : decode cX8_count 135 = .ok (.aload_n 0, 1) := by decide +kernel
theorem dX8_count_136 : decode cX8_count 136 = .ok (.getfield 35, 3) := by decide +kernel
theorem dX8_count_139 : decode cX8_count 139 = .ok (.ireturn, 1) := by decide +kernel
theorem dX8_count_140 : decode cX8_count 140 = .ok (.aload_n 0, 1) := by decide +kernel
theorem dX8_count_141 : decode cX8_count 141 = .ok (.getfield 113, 3) := by decide +kernel
theorem dX8_count_144 : decode cX8_count 144 = .ok (.ireturn, 1) := by decide +kernel
theorem dX8_count_145 : decode cX8_count 145 = .ok (.bipush (-2), 2) := by decide +kernel
theorem dX8_count_147 : decode cX8_count 147 = .ok (.ireturn, 1) := by decide +kernel
theorem dJ9_max_7cf53_0 : decode cJ9_max_7cf53 0 = .ok (.iload_n 0, 1) := by decide +kernel
theorem dJ9_max_7cf53_1 : decode cJ9_max_7cf53 1 = .ok (.iload_n 1, 1) := by decide +kernel
theorem dJ9_max_7cf53_2 : decode cJ9_max_7cf53 2 = .ok (.if_icmp .lt 7, 3) := by decide +kernel
theorem dJ9_max_7cf53_5 : decode cJ9_max_7cf53 5 = .ok (.iload_n 0, 1) := by decide +kernel
theorem dJ9_max_7cf53_6 : decode cJ9_max_7cf53 6 = .ok (.goto 4, 3) := by decide +kernel
theorem dJ9_max_7cf53_9 : decode cJ9_max_7cf53 9 = .ok (.iload_n 1, 1) := by decide +kernel
theorem dJ9_max_7cf53_10 : decode cJ9_max_7cf53 10 = .ok (.ireturn, 1) := by decide +kernel
theorem dJ9_min_7cf53_0 : decode cJ9_min_7cf53 0 = .ok (.iload_n 0, 1) := by decide +kernel
theorem dJ9_min_7cf53_1 : decode cJ9_min_7cf53 1 = .ok (.iload_n 1, 1) := by decide +kernel
theorem dJ9_min_7cf53_2 : decode cJ9_min_7cf53 2 = .ok (.if_icmp .gt 7, 3) := by decide +kernel
theorem dJ9_min_7cf53_5 : decode cJ9_min_7cf53 5 = .ok (.iload_n 0, 1) := by decide +kernel
theorem dJ9_min_7cf53_6 : decode cJ9_min_7cf53 6 = .ok (.goto 4, 3) := by decide +kernel
theorem dJ9_min_7cf53_9 : decode cJ9_min_7cf53 9 = .ok (.iload_n 1, 1) := by decide +kernel
theorem dJ9_min_7cf53_10 : decode cJ9_min_7cf53 10 = .ok (.ireturn, 1) := by decide +kernel
theorem dJ7_fill_53178_0 : decode cJ7_fill_53178 0 = .ok (.iconst 0, 1) := by decide +kernel
theorem dJ7_fill_53178_1 : decode cJ7_fill_53178 1 = .ok (.istore_n 2, 1) := by decide +kernel
theorem dJ7_fill_53178_2 : decode cJ7_fill_53178 2 = .ok (.aload_n 0, 1) := by decide +kernel
theorem dJ7_fill_53178_3 : decode cJ7_fill_53178 3 = .ok (.arraylength, 1) := by decide +kernel
theorem dJ7_fill_53178_4 : decode cJ7_fill_53178 4 = .ok (.istore_n 3, 1) := by decide +kernel
theorem dJ7_fill_53178_5 : decode cJ7_fill_53178 5 = .ok (.iload_n 2, 1) := by decide +kernel
theorem dJ7_fill_53178_6 : decode cJ7_fill_53178 6 = .ok (.iload_n 3, 1) := by decide +kernel
theorem dJ7_fill_53178_7 : decode cJ7_fill_53178 7 = .ok (.if_icmp .ge 13, 3) := by decide +kernel
theorem dJ7_fill_53178_10 : decode cJ7_fill_53178 10 = .ok (.aload_n 0, 1) := by decide +kernel
theorem dJ7_fill_53178_11 : decode cJ7_fill_53178 11 = .ok (.iload_n 2, 1) := by decide +kernel
theorem dJ7_fill_53178_12 : decode cJ7_fill_53178 12 = .ok (.iload_n 1, 1) := by decide +kernel
theorem dJ7_fill_53178_13 : decode cJ7_fill_53178 13 = .ok (.iastore, 1) := by decide +kernel
theorem dJ7_fill_53178_14 : decode cJ7_fill_53178 14 = .ok (.iinc 2 1, 3) := by decide +kernel
theorem dJ7_fill_53178_17 : decode cJ7_fill_53178 17 = .ok (.goto (-12), 3) := by decide +kernel
theorem dJ7_fill_53178_20 : decode cJ7_fill_53178 20 = .ok (.return_, 1) := by decide +kernel
set_option maxRecDepth 20000 in
theorem ggL_law_X7_init : GoodIn wsL_law wsX7_init := goodIn_r _ [8, 9, 10, 11, 12, 13, 14, 15, 16, 17, 18, 19, 20, 21, 22, 23, 24, 25, 26, 27, 28, 29, 30, 31, 32, 33, 34, 35, 36, 37, 38, 39, 40, 41, 42, 43, 44, 45, 46, 47, 48, 49, 50, 51, 52, 53, 54, 55, 56, 57, 58, 59, 60, 61, 62, 63, 64, 65, 66, 67, 68, 69, 70, 71, 72, 73, 74, 75, 76, 77, 78, 79, 80, 81, 82, 83, 84, 85, 86, 87, 88, 89, 90, 91, 92, 93, 94, 95, 96, 97, 98, 99, 100, 101, 102, 103, 104, 105, 106, 107, 108, 109, 708, 709, 710, 711, 712, 713, 714, 715, 716, 717, 688, 689, 690, 691, 692, 693, 694, 718, 719, 720, 721, 722, 723, 724, 725, 726, 727, 728, 729, 730, 731, 732, 733, 734, 735] (by decide +kernel) (by decide +kernel)
set_option maxRecDepth 20000 in
theorem gL_law_X7_init : GoodIn wsL_law (wsX7_init) := ggL_law_X7_init
set_option maxRecDepth 20000 in
theorem ggL_law_X8_init : GoodIn wsL_law wsX8_init := goodIn_r _ [112, 113, 10, 11, 65, 114, 115, 116, 117, 99, 118, 119, 120, 121, 695, 696, 697, 698, 699, 700, 701, 702, 703, 704, 705, 706, 707] (by decide +kernel) (by decide +kernel)
set_option maxRecDepth 20000 in
theorem gL_law_X8_init : GoodIn wsL_law (wsX8_init) := ggL_law_X8_init
set_option maxRecDepth 20000 in
theorem ggL_law_X7_takeBook : GoodIn wsL_law wsX7_takeBook := goodIn_r _ [125, 25, 16, 21, 15, 126, 127, 128, 24, 129, 101, 130, 131, 132, 133, 100, 134, 135, 136, 137, 138, 139, 140, 141, 142, 143, 144, 145, 146, 147, 148, 37, 149, 56, 53, 54, 55, 150, 80, 81, 45, 82, 66, 83, 84, 85, 86, 151, 152, 153, 154, 155, 156, 157, 158, 159, 160, 161, 162, 163, 164, 165, 166, 167, 168, 169, 20, 170, 93, 92, 171, 172, 173, 174, 175, 176, 177, 14, 178, 38, 42, 46, 179, 47, 180, 181, 182, 183, 184, 185, 186, 187, 188, 189, 190, 191, 192, 193, 194, 63, 195, 196, 197, 198, 199, 200, 201, 202, 41, 203, 72, 73, 74, 75, 76, 204, 205, 206, 207, 208, 209, 210, 688, 689, 690, 691, 692, 693, 694, 708, 709, 710, 711, 712, 713, 714, 715, 716, 717, 726, 727, 728, 729, 720, 721, 735, 718, 719, 730, 731, 732, 733, 734] (by decide +kernel) (by decide +kernel)
set_option maxRecDepth 20000 in
theorem gL_law_X7_takeBook : GoodIn wsL_law (wsV RL 13 RX7 yX7_takeBook wsX7_takeBook) := goodIn_app (goodIn_of _ (by decide +kernel)) ggL_law_X7_takeBook
set_option maxRecDepth 20000 in
theorem ggL_law_X8_takeBook : GoodIn wsL_law wsX8_takeBook := goodIn_r _ [214, 114, 215, 121, 216, 217, 218, 5, 219, 220, 221, 222, 223, 224, 225, 226, 227, 228, 229, 118, 230, 231, 232, 233, 234, 235, 236, 237, 238, 239, 240, 241, 242, 243, 244, 245, 116, 246, 247, 248, 249, 250, 251, 252, 253, 254, 255, 256, 695, 696, 697, 698, 699, 700, 701, 702, 703, 704, 705, 706, 707] (by decide +kernel) (by decide +kernel)
set_option maxRecDepth 20000 in
theorem gL_law_X8_takeBook : GoodIn wsL_law (wsV RL 17 RX8 yX8_takeBook wsX8_takeBook) := goodIn_app (goodIn_of _ (by decide +kernel)) ggL_law_X8_takeBook
set_option maxRecDepth 20000 in
theorem ggL_law_X7_layBook : GoodIn wsL_law wsX7_layBook := goodIn_r _ [260, 21, 15, 167, 168, 169, 20, 170, 93, 92, 171, 172, 173, 174, 175, 176, 177, 14, 178, 38, 42, 46, 179, 47, 180, 181, 182, 183, 184, 185, 186, 187, 37, 188, 53, 54, 55, 56, 189, 190, 191, 45, 192, 66, 193, 194, 63, 195, 196, 197, 198, 199, 200, 201, 202, 41, 203, 72, 73, 74, 75, 76, 204, 205, 206, 207, 208, 209, 261, 262, 263, 264, 265, 147, 148, 149, 150, 80, 81, 82, 83, 84, 85, 86, 266, 156, 157, 158, 159, 160, 161, 162, 688, 689, 690, 691, 692, 693, 694, 708, 709, 710, 711, 712, 713, 714, 715, 716, 717, 718, 719, 726, 727, 728, 729, 735, 730, 731, 732, 733, 734] (by decide +kernel) (by decide +kernel)
set_option maxRecDepth 20000 in
theorem gL_law_X7_layBook : GoodIn wsL_law (wsV RL 18 RX7 yX7_layBook wsX7_layBook) := goodIn_app (goodIn_of _ (by decide +kernel)) ggL_law_X7_layBook
set_option maxRecDepth 20000 in
theorem ggL_law_X8_layBook : GoodIn wsL_law wsX8_layBook := goodIn_r _ [270, 114, 234, 235, 5, 236, 241, 242, 243, 244, 245, 116, 246, 247, 248, 249, 250, 251, 252, 253, 254, 255, 256, 695, 696, 697, 698, 699, 700, 701, 702, 703, 704, 705, 706, 707] (by decide +kernel) (by decide +kernel)
set_option maxRecDepth 20000 in
theorem gL_law_X8_layBook : GoodIn wsL_law (wsV RL 22 RX8 yX8_layBook wsX8_layBook) := goodIn_app (goodIn_of _ (by decide +kernel)) ggL_law_X8_layBook
set_option maxRecDepth 20000 in
theorem ggL_law_X7_print : GoodIn wsL_law wsX7_print := goodIn_r _ [274, 15, 21, 275, 276, 277, 37, 278, 159, 160, 161, 162, 56, 279, 280, 281, 45, 282, 66, 83, 84, 85, 86, 167, 168, 169, 20, 170, 93, 92, 171, 172, 173, 174, 175, 176, 177, 14, 178, 38, 42, 46, 179, 47, 180, 181, 182, 183, 184, 185, 186, 187, 188, 53, 54, 55, 189, 190, 191, 192, 193, 194, 63, 195, 196, 197, 198, 199, 200, 201, 202, 41, 203, 72, 73, 74, 75, 76, 204, 205, 283, 80, 81, 82, 688, 689, 690, 691, 692, 693, 694, 708, 709, 710, 711, 712, 713, 714, 715, 716, 717, 726, 727, 728, 729, 735, 718, 719, 730, 731, 732, 733, 734] (by decide +kernel) (by decide +kernel)
set_option maxRecDepth 20000 in
theorem gL_law_X7_print : GoodIn wsL_law (wsV RL 23 RX7 yX7_print wsX7_print) := goodIn_app (goodIn_of _ (by decide +kernel)) ggL_law_X7_print
set_option maxRecDepth 20000 in
theorem ggL_law_X8_print : GoodIn wsL_law wsX8_print := goodIn_r _ [287, 114, 288, 289, 290, 5, 291, 234, 235, 236, 241, 242, 243, 244, 245, 116, 246, 247, 248, 695, 696, 697, 698, 699, 700, 701, 702, 703, 704, 705, 706, 707] (by decide +kernel) (by decide +kernel)
set_option maxRecDepth 20000 in
theorem gL_law_X8_print : GoodIn wsL_law (wsV RL 26 RX8 yX8_print wsX8_print) := goodIn_app (goodIn_of _ (by decide +kernel)) ggL_law_X8_print
set_option maxRecDepth 20000 in
theorem ggL_law_X7_turn : GoodIn wsL_law wsX7_turn := goodIn_r _ [295, 15, 21, 296, 297, 298, 14, 299, 38, 179, 167, 168, 169, 20, 170, 93, 92, 171, 172, 173, 174, 175, 176, 177, 178, 42, 46, 47, 180, 181, 182, 183, 184, 185, 186, 187, 37, 188, 53, 54, 55, 56, 189, 190, 191, 45, 192, 66, 193, 194, 63, 195, 196, 197, 198, 199, 200, 201, 202, 41, 203, 72, 73, 74, 75, 76, 204, 205, 300, 301, 302, 303, 304, 305, 306, 307, 308, 280, 281, 282, 83, 84, 85, 86, 309, 310, 311, 312, 313, 314, 62, 64, 688, 689, 690, 691, 692, 693, 694, 708, 709, 710, 711, 712, 713, 714, 715, 716, 717, 726, 727, 728, 729, 718, 719, 735, 730, 731, 732, 733, 734] (by decide +kernel) (by decide +kernel)
set_option maxRecDepth 20000 in
theorem gL_law_X7_turn : GoodIn wsL_law (wsV RL 27 RX7 yX7_turn wsX7_turn) := goodIn_app (goodIn_of _ (by decide +kernel)) ggL_law_X7_turn
set_option maxRecDepth 20000 in
theorem ggL_law_X8_turn : GoodIn wsL_law wsX8_turn := goodIn_r _ [318, 114, 319, 320, 321, 5, 322, 241, 242, 243, 244, 245, 116, 246, 247, 248, 323, 324, 325, 326, 327, 328, 329, 330, 331, 695, 696, 697, 698, 699, 700, 701, 702, 703, 704, 705, 706, 707] (by decide +kernel) (by decide +kernel)
set_option maxRecDepth 20000 in
theorem gL_law_X8_turn : GoodIn wsL_law (wsV RL 30 RX8 yX8_turn wsX8_turn) := goodIn_app (goodIn_of _ (by decide +kernel)) ggL_law_X8_turn
set_option maxRecDepth 20000 in
theorem ggL_law_X7_turnBack : GoodIn wsL_law wsX7_turnBack := goodIn_r _ [335, 15, 21, 167, 168, 169, 20, 170, 93, 92, 171, 172, 173, 174, 175, 176, 177, 14, 178, 38, 42, 46, 179, 47, 180, 181, 182, 183, 184, 185, 186, 187, 37, 188, 53, 54, 55, 56, 189, 190, 191, 45, 192, 66, 193, 194, 63, 195, 196, 197, 198, 199, 200, 201, 202, 41, 203, 72, 73, 74, 75, 76, 204, 205, 688, 689, 690, 691, 692, 693, 694, 708, 709, 710, 711, 712, 713, 714, 715, 716, 717, 718, 719, 726, 727, 728, 729, 735, 730, 731, 732, 733, 734] (by decide +kernel) (by decide +kernel)
set_option maxRecDepth 20000 in
theorem gL_law_X7_turnBack : GoodIn wsL_law (wsV RL 31 RX7 yX7_turnBack wsX7_turnBack) := goodIn_app (goodIn_of _ (by decide +kernel)) ggL_law_X7_turnBack
set_option maxRecDepth 20000 in
theorem ggL_law_X8_turnBack : GoodIn wsL_law wsX8_turnBack := goodIn_r _ [339, 114, 241, 242, 243, 5, 244, 245, 116, 246, 247, 248, 695, 696, 697, 698, 699, 700, 701, 702, 703, 704, 705, 706, 707] (by decide +kernel) (by decide +kernel)
set_option maxRecDepth 20000 in
theorem gL_law_X8_turnBack : GoodIn wsL_law (wsV RL 34 RX8 yX8_turnBack wsX8_turnBack) := goodIn_app (goodIn_of _ (by decide +kernel)) ggL_law_X8_turnBack
set_option maxRecDepth 20000 in
theorem ggL_law_X7_shoot : GoodIn wsL_law wsX7_shoot := goodIn_r _ [343, 15, 21, 344, 345, 346, 14, 347, 38, 348, 349, 350, 351, 42, 352, 353, 354, 355, 356, 357, 358, 359, 179, 360, 2, 361, 362, 363, 364, 365, 366, 297, 298, 299, 167, 168, 169, 20, 170, 93, 92, 171, 172, 173, 174, 175, 176, 177, 178, 46, 47, 180, 181, 182, 183, 184, 185, 186, 187, 37, 188, 53, 54, 55, 56, 189, 190, 191, 45, 192, 66, 193, 194, 63, 195, 196, 197, 198, 199, 200, 201, 202, 41, 203, 72, 73, 74, 75, 76, 204, 205, 367, 368, 369, 370, 371, 372, 373, 374, 375, 376, 377, 378, 379, 380, 308, 280, 281, 282, 83, 84, 85, 86, 381, 382, 383, 384, 385, 80, 81, 82, 688, 689, 690, 691, 692, 693, 694, 708, 709, 710, 711, 712, 713, 714, 715, 716, 717, 726, 727, 728, 729, 730, 731, 732, 733, 734, 718, 719, 735] (by decide +kernel) (by decide +kernel)
set_option maxRecDepth 20000 in
theorem gL_law_X7_shoot : GoodIn wsL_law (wsV RL 35 RX7 yX7_shoot wsX7_shoot) := goodIn_app (goodIn_of _ (by decide +kernel)) ggL_law_X7_shoot
set_option maxRecDepth 20000 in
theorem ggL_law_X8_shoot : GoodIn wsL_law wsX8_shoot := goodIn_r _ [389, 114, 115, 246, 247, 5, 248, 390, 391, 392, 393, 394, 395, 396, 397, 398, 399, 400, 401, 241, 242, 243, 244, 245, 116, 695, 696, 697, 698, 699, 700, 701, 702, 703, 704, 705, 706, 707] (by decide +kernel) (by decide +kernel)
set_option maxRecDepth 20000 in
theorem gL_law_X8_shoot : GoodIn wsL_law (wsV RL 38 RX8 yX8_shoot wsX8_shoot) := goodIn_app (goodIn_of _ (by decide +kernel)) ggL_law_X8_shoot
set_option maxRecDepth 20000 in
theorem ggL_law_X7_scan : GoodIn wsL_law wsX7_scan := goodIn_r _ [405, 15, 16, 21, 344, 345, 346, 14, 347, 38, 406, 176, 177, 178, 42, 46, 179, 47, 180, 181, 182, 183, 184, 185, 186, 187, 37, 188, 53, 54, 55, 56, 189, 190, 191, 45, 192, 66, 193, 194, 63, 195, 196, 197, 198, 199, 200, 201, 202, 41, 203, 72, 73, 74, 75, 76, 204, 205, 407, 408, 409, 410, 366, 297, 298, 299, 411, 349, 350, 351, 352, 353, 354, 355, 356, 357, 358, 359, 360, 2, 361, 362, 363, 364, 365, 412, 368, 369, 370, 371, 372, 373, 374, 375, 376, 377, 378, 379, 380, 308, 280, 281, 282, 83, 84, 85, 86, 381, 382, 383, 384, 385, 80, 81, 82, 413, 301, 302, 303, 304, 305, 306, 307, 309, 310, 311, 312, 313, 314, 62, 64, 167, 168, 169, 20, 170, 93, 92, 171, 172, 173, 174, 175, 688, 689, 690, 691, 692, 693, 694, 708, 709, 710, 711, 712, 713, 714, 715, 716, 717, 726, 727, 728, 729, 735, 730, 731, 732, 733, 734, 718, 719] (by decide +kernel) (by decide +kernel)
set_option maxRecDepth 20000 in
theorem gL_law_X7_scan : GoodIn wsL_law (wsV RL 39 RX7 yX7_scan wsX7_scan) := goodIn_app (goodIn_of _ (by decide +kernel)) ggL_law_X7_scan
set_option maxRecDepth 20000 in
theorem ggL_law_X8_scan : GoodIn wsL_law wsX8_scan := goodIn_r _ [417, 114, 115, 234, 235, 5, 236, 246, 247, 248, 390, 391, 392, 393, 394, 395, 396, 397, 398, 399, 400, 401, 323, 324, 325, 326, 327, 328, 329, 330, 331, 241, 242, 243, 244, 245, 116, 695, 696, 697, 698, 699, 700, 701, 702, 703, 704, 705, 706, 707] (by decide +kernel) (by decide +kernel)
set_option maxRecDepth 20000 in
theorem gL_law_X8_scan : GoodIn wsL_law (wsV RL 43 RX8 yX8_scan wsX8_scan) := goodIn_app (goodIn_of _ (by decide +kernel)) ggL_law_X8_scan
set_option maxRecDepth 20000 in
theorem ggL_law_X7_throwAway : GoodIn wsL_law wsX7_throwAway := goodIn_r _ [421, 15, 21, 422, 423, 424, 41, 425, 76, 167, 168, 169, 20, 170, 93, 92, 171, 172, 173, 174, 175, 176, 177, 14, 178, 38, 42, 46, 179, 47, 180, 181, 182, 183, 184, 185, 186, 187, 37, 188, 53, 54, 55, 56, 189, 190, 191, 45, 192, 66, 193, 194, 63, 195, 196, 197, 198, 199, 200, 201, 202, 203, 72, 73, 74, 75, 204, 205, 426, 427, 428, 429, 430, 431, 432, 433, 434, 83, 84, 85, 86, 688, 689, 690, 691, 692, 693, 694, 708, 709, 710, 711, 712, 713, 714, 715, 716, 717, 730, 731, 732, 733, 734, 718, 719, 726, 727, 728, 729, 735] (by decide +kernel) (by decide +kernel)
set_option maxRecDepth 20000 in
theorem gL_law_X7_throwAway : GoodIn wsL_law (wsV RL 44 RX7 yX7_throwAway wsX7_throwAway) := goodIn_app (goodIn_of _ (by decide +kernel)) ggL_law_X7_throwAway
set_option maxRecDepth 20000 in
theorem ggL_law_X8_throwAway : GoodIn wsL_law wsX8_throwAway := goodIn_r _ [438, 114, 439, 440, 441, 5, 442, 234, 235, 236, 241, 242, 243, 244, 245, 116, 246, 247, 248, 695, 696, 697, 698, 699, 700, 701, 702, 703, 704, 705, 706, 707] (by decide +kernel) (by decide +kernel)
set_option maxRecDepth 20000 in
theorem gL_law_X8_throwAway : GoodIn wsL_law (wsV RL 47 RX8 yX8_throwAway wsX8_throwAway) := goodIn_app (goodIn_of _ (by decide +kernel)) ggL_law_X8_throwAway
set_option maxRecDepth 20000 in
theorem ggL_law_X7_setSuction : GoodIn wsL_law wsX7_setSuction := goodIn_r _ [446, 15, 21, 447, 448, 2, 449, 167, 168, 169, 20, 170, 93, 92, 171, 172, 173, 174, 175, 176, 177, 14, 178, 38, 42, 46, 179, 47, 180, 181, 182, 183, 184, 185, 186, 187, 37, 188, 53, 54, 55, 56, 189, 190, 191, 45, 192, 66, 193, 194, 63, 195, 196, 197, 198, 199, 200, 201, 202, 41, 203, 72, 73, 74, 75, 76, 204, 205, 688, 689, 690, 691, 692, 693, 694, 708, 709, 710, 711, 712, 713, 714, 715, 716, 717, 718, 719, 726, 727, 728, 729, 735, 730, 731, 732, 733, 734] (by decide +kernel) (by decide +kernel)
set_option maxRecDepth 20000 in
theorem gL_law_X7_setSuction : GoodIn wsL_law (wsV RL 48 RX7 yX7_setSuction wsX7_setSuction) := goodIn_app (goodIn_of _ (by decide +kernel)) ggL_law_X7_setSuction
set_option maxRecDepth 20000 in
theorem ggL_law_X8_setSuction : GoodIn wsL_law wsX8_setSuction := goodIn_r _ [453, 234, 235, 5, 236, 454, 455, 456, 457, 114, 241, 242, 243, 244, 245, 116, 246, 247, 248, 695, 696, 697, 698, 699, 700, 701, 702, 703, 704, 705, 706, 707] (by decide +kernel) (by decide +kernel)
set_option maxRecDepth 20000 in
theorem gL_law_X8_setSuction : GoodIn wsL_law (wsV RL 51 RX8 yX8_setSuction wsX8_setSuction) := goodIn_app (goodIn_of _ (by decide +kernel)) ggL_law_X8_setSuction
set_option maxRecDepth 20000 in
theorem ggL_law_X7_set : GoodIn wsL_law wsX7_set := goodIn_r _ [461, 462, 15, 21, 279, 280, 281, 45, 282, 66, 83, 84, 85, 86, 167, 168, 169, 20, 170, 93, 92, 171, 172, 173, 174, 175, 176, 177, 14, 178, 38, 42, 46, 179, 47, 180, 181, 182, 183, 184, 185, 186, 187, 37, 188, 53, 54, 55, 56, 189, 190, 191, 192, 193, 194, 63, 195, 196, 197, 198, 199, 200, 201, 202, 41, 203, 72, 73, 74, 75, 76, 204, 205, 283, 80, 81, 82, 688, 689, 690, 691, 692, 693, 694, 708, 709, 710, 711, 712, 713, 714, 715, 716, 717, 735, 718, 719, 726, 727, 728, 729, 730, 731, 732, 733, 734] (by decide +kernel) (by decide +kernel)
set_option maxRecDepth 20000 in
theorem gL_law_X7_set : GoodIn wsL_law (wsV RL 52 RX7 yX7_set wsX7_set) := goodIn_app (goodIn_of _ (by decide +kernel)) ggL_law_X7_set
set_option maxRecDepth 20000 in
theorem ggL_law_X8_set : GoodIn wsL_law wsX8_set := goodIn_r _ [466, 234, 235, 5, 236, 454, 455, 456, 457, 114, 241, 242, 243, 244, 245, 116, 246, 247, 248, 695, 696, 697, 698, 699, 700, 701, 702, 703, 704, 705, 706, 707] (by decide +kernel) (by decide +kernel)
set_option maxRecDepth 20000 in
theorem gL_law_X8_set : GoodIn wsL_law (wsV RL 55 RX8 yX8_set wsX8_set) := goodIn_app (goodIn_of _ (by decide +kernel)) ggL_law_X8_set
set_option maxRecDepth 20000 in
theorem ggL_law_X7_type : GoodIn wsL_law wsX7_type := goodIn_r _ [470, 25, 471, 472, 473, 24, 474, 101, 100, 688, 689, 690, 691, 692, 693, 694, 720, 721] (by decide +kernel) (by decide +kernel)
set_option maxRecDepth 20000 in
theorem gL_law_X7_type : GoodIn wsL_law (wsV RL 56 RX7 yX7_type wsX7_type) := goodIn_app (goodIn_of _ (by decide +kernel)) ggL_law_X7_type
set_option maxRecDepth 20000 in
theorem ggL_law_X8_type : GoodIn wsL_law wsX8_type := goodIn_r _ [478, 221, 118, 695, 696, 697, 698, 699, 700, 701, 702, 703, 704, 705, 706, 707] (by decide +kernel) (by decide +kernel)
set_option maxRecDepth 20000 in
theorem gL_law_X8_type : GoodIn wsL_law (wsV RL 60 RX8 yX8_type wsX8_type) := goodIn_app (goodIn_of _ (by decide +kernel)) ggL_law_X8_type
set_option maxRecDepth 20000 in
theorem ggL_law_X7_clearText : GoodIn wsL_law wsX7_clearText := goodIn_r _ [482, 25, 688, 689, 690, 691, 692, 693, 694, 720, 721] (by decide +kernel) (by decide +kernel)
set_option maxRecDepth 20000 in
theorem gL_law_X7_clearText : GoodIn wsL_law (wsV RL 61 RX7 yX7_clearText wsX7_clearText) := goodIn_app (goodIn_of _ (by decide +kernel)) ggL_law_X7_clearText
set_option maxRecDepth 20000 in
theorem ggL_law_X8_clearText : GoodIn wsL_law wsX8_clearText := goodIn_r _ [486, 221, 695, 696, 697, 698, 699, 700, 701, 702, 703, 704, 705, 706, 707] (by decide +kernel) (by decide +kernel)
set_option maxRecDepth 20000 in
theorem gL_law_X8_clearText : GoodIn wsL_law (wsV RL 64 RX8 yX8_clearText wsX8_clearText) := goodIn_app (goodIn_of _ (by decide +kernel)) ggL_law_X8_clearText
set_option maxRecDepth 20000 in
theorem ggL_law_X7_undo : GoodIn wsL_law wsX7_undo := goodIn_r _ [490, 21, 15, 491, 492, 493, 20, 494, 93, 92, 175, 176, 177, 14, 178, 38, 42, 46, 179, 47, 180, 181, 182, 183, 184, 185, 186, 187, 37, 188, 53, 54, 55, 56, 189, 190, 191, 45, 192, 66, 193, 194, 63, 195, 196, 197, 198, 199, 200, 201, 202, 41, 203, 72, 73, 74, 75, 76, 204, 205, 688, 689, 690, 691, 692, 693, 694, 718, 719, 708, 709, 710, 711, 712, 713, 714, 715, 716, 717, 726, 727, 728, 729, 735, 730, 731, 732, 733, 734] (by decide +kernel) (by decide +kernel)
set_option maxRecDepth 20000 in
theorem gL_law_X7_undo : GoodIn wsL_law (wsV RL 65 RX7 yX7_undo wsX7_undo) := goodIn_app (goodIn_of _ (by decide +kernel)) ggL_law_X7_undo
set_option maxRecDepth 20000 in
theorem ggL_law_X8_undo : GoodIn wsL_law wsX8_undo := goodIn_r _ [498, 245, 116, 114, 246, 247, 5, 248, 695, 696, 697, 698, 699, 700, 701, 702, 703, 704, 705, 706, 707] (by decide +kernel) (by decide +kernel)
set_option maxRecDepth 20000 in
theorem gL_law_X8_undo : GoodIn wsL_law (wsV RL 68 RX8 yX8_undo wsX8_undo) := goodIn_app (goodIn_of _ (by decide +kernel)) ggL_law_X8_undo
set_option maxRecDepth 20000 in
theorem ggL_law_X7_keep : GoodIn wsL_law wsX7_keep := goodIn_r _ [502, 17, 15, 30, 406, 176, 177, 14, 178, 38, 42, 46, 179, 47, 180, 181, 182, 183, 184, 185, 186, 187, 37, 188, 53, 54, 55, 56, 189, 190, 191, 45, 192, 66, 193, 194, 63, 195, 196, 197, 198, 199, 200, 201, 202, 41, 203, 72, 73, 74, 75, 76, 204, 205, 688, 689, 690, 691, 692, 693, 694, 708, 709, 710, 711, 712, 713, 714, 715, 716, 717, 730, 731, 732, 733, 734, 726, 727, 728, 729, 735] (by decide +kernel) (by decide +kernel)
set_option maxRecDepth 20000 in
theorem gL_law_X7_keep : GoodIn wsL_law (wsV RL 69 RX7 yX7_keep wsX7_keep) := goodIn_app (goodIn_of _ (by decide +kernel)) ggL_law_X7_keep
set_option maxRecDepth 20000 in
theorem ggL_law_X8_keep : GoodIn wsL_law wsX8_keep := goodIn_r _ [506, 114, 117, 507, 246, 247, 5, 248, 695, 696, 697, 698, 699, 700, 701, 702, 703, 704, 705, 706, 707] (by decide +kernel) (by decide +kernel)
set_option maxRecDepth 20000 in
theorem gL_law_X8_keep : GoodIn wsL_law (wsV RL 72 RX8 yX8_keep wsX8_keep) := goodIn_app (goodIn_of _ (by decide +kernel)) ggL_law_X8_keep
set_option maxRecDepth 20000 in
theorem ggL_law_X7_restore : GoodIn wsL_law wsX7_restore := goodIn_r _ [511, 30, 21, 15, 17, 167, 168, 169, 20, 170, 93, 92, 171, 172, 173, 174, 175, 176, 177, 14, 178, 38, 42, 46, 179, 47, 180, 181, 182, 183, 184, 185, 186, 187, 37, 188, 53, 54, 55, 56, 189, 190, 191, 45, 192, 66, 193, 194, 63, 195, 196, 197, 198, 199, 200, 201, 202, 41, 203, 72, 73, 74, 75, 76, 204, 205, 406, 688, 689, 690, 691, 692, 693, 694, 708, 709, 710, 711, 712, 713, 714, 715, 716, 717, 730, 731, 732, 733, 734, 718, 719, 726, 727, 728, 729, 735] (by decide +kernel) (by decide +kernel)
set_option maxRecDepth 20000 in
theorem gL_law_X7_restore : GoodIn wsL_law (wsV RL 73 RX7 yX7_restore wsX7_restore) := goodIn_app (goodIn_of _ (by decide +kernel)) ggL_law_X7_restore
set_option maxRecDepth 20000 in
theorem ggL_law_X8_restore : GoodIn wsL_law wsX8_restore := goodIn_r _ [515, 507, 114, 117, 241, 242, 243, 5, 244, 245, 116, 246, 247, 248, 695, 696, 697, 698, 699, 700, 701, 702, 703, 704, 705, 706, 707] (by decide +kernel) (by decide +kernel)
set_option maxRecDepth 20000 in
theorem gL_law_X8_restore : GoodIn wsL_law (wsV RL 76 RX8 yX8_restore wsX8_restore) := goodIn_app (goodIn_of _ (by decide +kernel)) ggL_law_X8_restore
set_option maxRecDepth 20000 in
theorem ggL_law_X7_leaf : GoodIn wsL_law wsX7_leaf := goodIn_r _ [519, 15, 279, 280, 281, 45, 282, 66, 83, 84, 85, 86, 520, 360, 2, 361, 688, 689, 690, 691, 692, 693, 694, 708, 709, 710, 711, 712, 713, 714, 715, 716, 717, 726, 727, 728, 729, 735] (by decide +kernel) (by decide +kernel)
set_option maxRecDepth 20000 in
theorem gL_law_X7_leaf : GoodIn wsL_law (wsV RL 77 RX7 yX7_leaf wsX7_leaf) := goodIn_app (goodIn_of _ (by decide +kernel)) ggL_law_X7_leaf
set_option maxRecDepth 20000 in
theorem ggL_law_X8_leaf : GoodIn wsL_law wsX8_leaf := goodIn_r _ [524, 114, 234, 235, 5, 236, 695, 696, 697, 698, 699, 700, 701, 702, 703, 704, 705, 706, 707] (by decide +kernel) (by decide +kernel)
set_option maxRecDepth 20000 in
theorem gL_law_X8_leaf : GoodIn wsL_law (wsV RL 80 RX8 yX8_leaf wsX8_leaf) := goodIn_app (goodIn_of _ (by decide +kernel)) ggL_law_X8_leaf
set_option maxRecDepth 20000 in
theorem ggL_law_X7_page : GoodIn wsL_law wsX7_page := goodIn_r _ [528, 15, 29, 275, 276, 277, 37, 278, 159, 160, 161, 162, 56, 279, 280, 281, 45, 282, 66, 83, 84, 85, 86, 529, 530, 531, 28, 532, 533, 534, 108, 107, 535, 536, 537, 538, 539, 540, 541, 542, 543, 544, 545, 546, 547, 548, 549, 550, 551, 41, 552, 74, 553, 554, 555, 80, 81, 82, 556, 557, 558, 559, 560, 561, 562, 563, 76, 72, 564, 565, 566, 567, 520, 360, 2, 361, 568, 376, 377, 14, 378, 38, 46, 379, 380, 308, 688, 689, 690, 691, 692, 693, 694, 708, 709, 710, 711, 712, 713, 714, 715, 716, 717, 726, 727, 728, 729, 722, 723, 724, 725, 735, 730, 731, 732, 733, 734] (by decide +kernel) (by decide +kernel)
set_option maxRecDepth 20000 in
theorem gL_law_X7_page : GoodIn wsL_law (wsV RL 81 RX7 yX7_page wsX7_page) := goodIn_app (goodIn_of _ (by decide +kernel)) ggL_law_X7_page
set_option maxRecDepth 20000 in
theorem ggL_law_X8_page : GoodIn wsL_law wsX8_page := goodIn_r _ [572, 114, 120, 288, 289, 290, 5, 291, 234, 235, 236, 573, 574, 575, 576, 119, 577, 578, 579, 580, 581, 582, 583, 584, 585, 586, 587, 588, 589, 590, 591, 592, 399, 400, 401, 695, 696, 697, 698, 699, 700, 701, 702, 703, 704, 705, 706, 707] (by decide +kernel) (by decide +kernel)
set_option maxRecDepth 20000 in
theorem gL_law_X8_page : GoodIn wsL_law (wsV RL 84 RX8 yX8_page wsX8_page) := goodIn_app (goodIn_of _ (by decide +kernel)) ggL_law_X8_page
set_option maxRecDepth 20000 in
theorem ggL_law_X7_picture : GoodIn wsL_law wsX7_picture := goodIn_r _ [596, 15, 29, 422, 423, 424, 41, 425, 76, 279, 280, 281, 45, 282, 66, 83, 84, 85, 86, 597, 550, 551, 552, 74, 553, 520, 360, 2, 361, 529, 530, 531, 28, 532, 533, 534, 108, 107, 535, 160, 161, 37, 162, 56, 536, 537, 538, 539, 540, 541, 542, 543, 544, 545, 546, 547, 548, 549, 554, 276, 277, 278, 159, 555, 80, 81, 82, 556, 557, 558, 559, 598, 599, 600, 601, 602, 379, 380, 688, 689, 690, 691, 692, 693, 694, 708, 709, 710, 711, 712, 713, 714, 715, 716, 717, 730, 731, 732, 733, 734, 722, 723, 724, 725, 735, 726, 727, 728, 729] (by decide +kernel) (by decide +kernel)
set_option maxRecDepth 20000 in
theorem gL_law_X7_picture : GoodIn wsL_law (wsV RL 85 RX7 yX7_picture wsX7_picture) := goodIn_app (goodIn_of _ (by decide +kernel)) ggL_law_X7_picture
set_option maxRecDepth 20000 in
theorem ggL_law_X8_picture : GoodIn wsL_law wsX8_picture := goodIn_r _ [606, 119, 439, 440, 441, 5, 442, 114, 234, 235, 236, 573, 574, 575, 576, 120, 577, 578, 579, 580, 581, 582, 583, 584, 288, 289, 290, 291, 607, 608, 609, 610, 695, 696, 697, 698, 699, 700, 701, 702, 703, 704, 705, 706, 707] (by decide +kernel) (by decide +kernel)
set_option maxRecDepth 20000 in
theorem gL_law_X8_picture : GoodIn wsL_law (wsV RL 88 RX8 yX8_picture wsX8_picture) := goodIn_app (goodIn_of _ (by decide +kernel)) ggL_law_X8_picture
set_option maxRecDepth 20000 in
theorem ggL_law_X7_open : GoodIn wsL_law wsX7_open := goodIn_r _ [614, 15, 615, 357, 358, 14, 359, 179, 616, 363, 364, 365, 366, 297, 298, 299, 38, 688, 689, 690, 691, 692, 693, 694, 708, 709, 710, 711, 712, 713, 714, 715, 716, 717, 726, 727, 728, 729] (by decide +kernel) (by decide +kernel)
set_option maxRecDepth 20000 in
theorem gL_law_X7_open : GoodIn wsL_law (wsV RL 89 RX7 yX7_open wsX7_open) := goodIn_app (goodIn_of _ (by decide +kernel)) ggL_law_X7_open
set_option maxRecDepth 20000 in
theorem ggL_law_X8_open : GoodIn wsL_law wsX8_open := goodIn_r _ [620, 114, 234, 235, 5, 236, 393, 394, 395, 695, 696, 697, 698, 699, 700, 701, 702, 703, 704, 705, 706, 707] (by decide +kernel) (by decide +kernel)
set_option maxRecDepth 20000 in
theorem gL_law_X8_open : GoodIn wsL_law (wsV RL 92 RX8 yX8_open wsX8_open) := goodIn_app (goodIn_of _ (by decide +kernel)) ggL_law_X8_open
set_option maxRecDepth 20000 in
theorem ggL_law_X7_would : GoodIn wsL_law wsX7_would := goodIn_r _ [624, 15, 447, 448, 2, 449, 296, 297, 298, 14, 299, 38, 179, 625, 305, 306, 307, 308, 280, 281, 45, 282, 66, 83, 84, 85, 86, 688, 689, 690, 691, 692, 693, 694, 708, 709, 710, 711, 712, 713, 714, 715, 716, 717, 726, 727, 728, 729, 735] (by decide +kernel) (by decide +kernel)
set_option maxRecDepth 20000 in
theorem gL_law_X7_would : GoodIn wsL_law (wsV RL 93 RX7 yX7_would wsX7_would) := goodIn_app (goodIn_of _ (by decide +kernel)) ggL_law_X7_would
set_option maxRecDepth 20000 in
theorem ggL_law_X8_would : GoodIn wsL_law wsX8_would := goodIn_r _ [629, 114, 234, 235, 5, 236, 319, 320, 321, 322, 326, 327, 328, 695, 696, 697, 698, 699, 700, 701, 702, 703, 704, 705, 706, 707] (by decide +kernel) (by decide +kernel)
set_option maxRecDepth 20000 in
theorem gL_law_X8_would : GoodIn wsL_law (wsV RL 96 RX8 yX8_would wsX8_would) := goodIn_app (goodIn_of _ (by decide +kernel)) ggL_law_X8_would
set_option maxRecDepth 20000 in
theorem ggL_law_X7_best : GoodIn wsL_law wsX7_best := goodIn_r _ [633, 15, 296, 297, 298, 14, 299, 38, 179, 625, 305, 306, 307, 308, 280, 281, 45, 282, 66, 83, 84, 85, 86, 688, 689, 690, 691, 692, 693, 694, 708, 709, 710, 711, 712, 713, 714, 715, 716, 717, 726, 727, 728, 729, 735] (by decide +kernel) (by decide +kernel)
set_option maxRecDepth 20000 in
theorem gL_law_X7_best : GoodIn wsL_law (wsV RL 97 RX7 yX7_best wsX7_best) := goodIn_app (goodIn_of _ (by decide +kernel)) ggL_law_X7_best
set_option maxRecDepth 20000 in
theorem ggL_law_X8_best : GoodIn wsL_law wsX8_best := goodIn_r _ [637, 114, 319, 320, 321, 5, 322, 326, 327, 328, 695, 696, 697, 698, 699, 700, 701, 702, 703, 704, 705, 706, 707] (by decide +kernel) (by decide +kernel)
set_option maxRecDepth 20000 in
theorem gL_law_X8_best : GoodIn wsL_law (wsV RL 100 RX8 yX8_best wsX8_best) := goodIn_app (goodIn_of _ (by decide +kernel)) ggL_law_X8_best
set_option maxRecDepth 20000 in
theorem ggL_law_X7_lacking : GoodIn wsL_law wsX7_lacking := goodIn_r _ [641, 29, 15, 529, 530, 531, 28, 532, 533, 534, 108, 107, 535, 160, 161, 37, 162, 56, 536, 537, 538, 45, 539, 66, 540, 541, 542, 543, 544, 545, 546, 547, 548, 280, 281, 282, 83, 84, 85, 86, 549, 550, 551, 41, 552, 74, 553, 554, 276, 277, 278, 159, 555, 80, 81, 82, 556, 557, 558, 559, 642, 643, 644, 645, 688, 689, 690, 691, 692, 693, 694, 708, 709, 710, 711, 712, 713, 714, 715, 716, 717, 730, 731, 732, 733, 734, 722, 723, 724, 725, 726, 727, 728, 729, 735] (by decide +kernel) (by decide +kernel)
set_option maxRecDepth 20000 in
theorem gL_law_X7_lacking : GoodIn wsL_law (wsV RL 101 RX7 yX7_lacking wsX7_lacking) := goodIn_app (goodIn_of _ (by decide +kernel)) ggL_law_X7_lacking
set_option maxRecDepth 20000 in
theorem ggL_law_X8_lacking : GoodIn wsL_law wsX8_lacking := goodIn_r _ [649, 114, 120, 573, 574, 575, 5, 576, 119, 577, 578, 579, 580, 581, 582, 583, 584, 288, 289, 290, 291, 234, 235, 236, 695, 696, 697, 698, 699, 700, 701, 702, 703, 704, 705, 706, 707] (by decide +kernel) (by decide +kernel)
set_option maxRecDepth 20000 in
theorem gL_law_X8_lacking : GoodIn wsL_law (wsV RL 104 RX8 yX8_lacking wsX8_lacking) := goodIn_app (goodIn_of _ (by decide +kernel)) ggL_law_X8_lacking
set_option maxRecDepth 20000 in
theorem ggL_law_X7_count : GoodIn wsL_law wsX7_count := goodIn_r _ [653, 15, 21, 25, 654, 655, 656, 2, 657, 29, 529, 530, 531, 28, 532, 533, 534, 108, 107, 535, 160, 161, 37, 162, 56, 536, 537, 538, 45, 539, 66, 540, 541, 542, 543, 544, 545, 546, 547, 548, 280, 281, 282, 83, 84, 85, 86, 549, 550, 551, 41, 552, 74, 553, 554, 276, 277, 278, 159, 555, 80, 81, 82, 556, 557, 558, 559, 658, 659, 660, 661, 662, 663, 664, 665, 666, 565, 566, 567, 667, 668, 669, 670, 671, 599, 600, 601, 672, 673, 674, 675, 279, 688, 689, 690, 691, 692, 693, 694, 708, 709, 710, 711, 712, 713, 714, 715, 716, 717, 726, 727, 728, 729, 730, 731, 732, 733, 734, 718, 719, 720, 721, 722, 723, 724, 725, 735] (by decide +kernel) (by decide +kernel)
set_option maxRecDepth 20000 in
theorem gL_law_X7_count : GoodIn wsL_law (wsV RL 105 RX7 yX7_count wsX7_count) := goodIn_app (goodIn_of _ (by decide +kernel)) ggL_law_X7_count
set_option maxRecDepth 20000 in
theorem ggL_law_X8_count : GoodIn wsL_law wsX8_count := goodIn_r _ [679, 114, 245, 221, 680, 681, 682, 5, 683, 120, 573, 574, 575, 576, 119, 577, 578, 579, 580, 581, 582, 583, 584, 288, 289, 290, 291, 234, 235, 236, 589, 590, 591, 592, 684, 685, 686, 687, 607, 608, 609, 610, 695, 696, 697, 698, 699, 700, 701, 702, 703, 704, 705, 706, 707] (by decide +kernel) (by decide +kernel)
set_option maxRecDepth 20000 in
theorem gL_law_X8_count : GoodIn wsL_law (wsV RL 108 RX8 yX8_count wsX8_count) := goodIn_app (goodIn_of _ (by decide +kernel)) ggL_law_X8_count
theorem dL_law_0 : decode cL_law 0 = .ok (.new 7, 3) := by decide +kernel
theorem dL_law_3 : decode cL_law 3 = .ok (.dup, 1) := by decide +kernel
theorem dL_law_4 : decode cL_law 4 = .ok (.invokespecial 9, 3) := by decide +kernel
theorem dL_law_7 : decode cL_law 7 = .ok (.astore_n 1, 1) := by decide +kernel
theorem dL_law_8 : decode cL_law 8 = .ok (.new 10, 3) := by decide +kernel
theorem dL_law_11 : decode cL_law 11 = .ok (.dup, 1) := by decide +kernel
theorem dL_law_12 : decode cL_law 12 = .ok (.invokespecial 12, 3) := by decide +kernel
theorem dL_law_15 : decode cL_law 15 = .ok (.astore_n 2, 1) := by decide +kernel
theorem dL_law_16 : decode cL_law 16 = .ok (.iconst 0, 1) := by decide +kernel
theorem dL_law_17 : decode cL_law 17 = .ok (.istore_n 3, 1) := by decide +kernel
theorem dL_law_18 : decode cL_law 18 = .ok (.iload_n 3, 1) := by decide +kernel
theorem dL_law_19 : decode cL_law 19 = .ok (.aload_n 0, 1) := by decide +kernel
theorem dL_law_20 : decode cL_law 20 = .ok (.arraylength, 1) := by decide +kernel
theorem dL_law_21 : decode cL_law 21 = .ok (.iconst 3, 1) := by decide +kernel
theorem dL_law_22 : decode cL_law 22 = .ok (.isub, 1) := by decide +kernel
theorem dL_law_23 : decode cL_law 23 = .ok (.if_icmp .gt 624, 3) := by decide +kernel
theorem dL_law_26 : decode cL_law 26 = .ok (.aload_n 0, 1) := by decide +kernel
theorem dL_law_27 : decode cL_law 27 = .ok (.iload_n 3, 1) := by decide +kernel
theorem dL_law_28 : decode cL_law 28 = .ok (.iaload, 1) := by decide +kernel
theorem dL_law_29 : decode cL_law 29 = .ok (.bipush 31, 2) := by decide +kernel
theorem dL_law_31 : decode cL_law 31 = .ok (.iand, 1) := by decide +kernel
theorem dL_law_32 : decode cL_law 32 = .ok (.tableswitch 609 0 22 #[108, 121, 154, 187, 200, 213, 226, 249, 272, 295, 328, 353, 366, 379, 392, 405, 438, 471, 504, 527, 550, 563, 586], 108) := by decide +kernel
theorem dL_law_140 : decode cL_law 140 = .ok (.aload_n 1, 1) := by decide +kernel
theorem dL_law_141 : decode cL_law 141 = .ok (.invokevirtual 13, 3) := by decide +kernel
theorem dL_law_144 : decode cL_law 144 = .ok (.aload_n 2, 1) := by decide +kernel
theorem dL_law_145 : decode cL_law 145 = .ok (.invokevirtual 17, 3) := by decide +kernel
theorem dL_law_148 : decode cL_law 148 = .ok (.if_icmp .eq 493, 3) := by decide +kernel
theorem dL_law_151 : decode cL_law 151 = .ok (.iconst 0, 1) := by decide +kernel
theorem dL_law_152 : decode cL_law 152 = .ok (.ireturn, 1) := by decide +kernel
theorem dL_law_153 : decode cL_law 153 = .ok (.aload_n 1, 1) := by decide +kernel
theorem dL_law_154 : decode cL_law 154 = .ok (.aload_n 0, 1) := by decide +kernel
theorem dL_law_155 : decode cL_law 155 = .ok (.iload_n 3, 1) := by decide +kernel
theorem dL_law_156 : decode cL_law 156 = .ok (.iconst 1, 1) := by decide +kernel
theorem dL_law_157 : decode cL_law 157 = .ok (.iadd, 1) := by decide +kernel
theorem dL_law_158 : decode cL_law 158 = .ok (.iaload, 1) := by decide +kernel
theorem dL_law_159 : decode cL_law 159 = .ok (.aload_n 0, 1) := by decide +kernel
theorem dL_law_160 : decode cL_law 160 = .ok (.iload_n 3, 1) := by decide +kernel
theorem dL_law_161 : decode cL_law 161 = .ok (.iconst 2, 1) := by decide +kernel
theorem dL_law_162 : decode cL_law 162 = .ok (.iadd, 1) := by decide +kernel
theorem dL_law_163 : decode cL_law 163 = .ok (.iaload, 1) := by decide +kernel
theorem dL_law_164 : decode cL_law 164 = .ok (.invokevirtual 18, 3) := by decide +kernel
theorem dL_law_167 : decode cL_law 167 = .ok (.aload_n 2, 1) := by decide +kernel
theorem dL_law_168 : decode cL_law 168 = .ok (.aload_n 0, 1) := by decide +kernel
theorem dL_law_169 : decode cL_law 169 = .ok (.iload_n 3, 1) := by decide +kernel
theorem dL_law_170 : decode cL_law 170 = .ok (.iconst 1, 1) := by decide +kernel
theorem dL_law_171 : decode cL_law 171 = .ok (.iadd, 1) := by decide +kernel
theorem dL_law_172 : decode cL_law 172 = .ok (.iaload, 1) := by decide +kernel
theorem dL_law_173 : decode cL_law 173 = .ok (.aload_n 0, 1) := by decide +kernel
theorem dL_law_174 : decode cL_law 174 = .ok (.iload_n 3, 1) := by decide +kernel
theorem dL_law_175 : decode cL_law 175 = .ok (.iconst 2, 1) := by decide +kernel
theorem dL_law_176 : decode cL_law 176 = .ok (.iadd, 1) := by decide +kernel
theorem dL_law_177 : decode cL_law 177 = .ok (.iaload, 1) := by decide +kernel
theorem dL_law_178 : decode cL_law 178 = .ok (.invokevirtual 22, 3) := by decide +kernel
theorem dL_law_181 : decode cL_law 181 = .ok (.if_icmp .eq 460, 3) := by decide +kernel
theorem dL_law_184 : decode cL_law 184 = .ok (.iconst 0, 1) := by decide +kernel
theorem dL_law_185 : decode cL_law 185 = .ok (.ireturn, 1) := by decide +kernel
theorem dL_law_186 : decode cL_law 186 = .ok (.aload_n 1, 1) := by decide +kernel
theorem dL_law_187 : decode cL_law 187 = .ok (.aload_n 0, 1) := by decide +kernel
theorem dL_law_188 : decode cL_law 188 = .ok (.iload_n 3, 1) := by decide +kernel
theorem dL_law_189 : decode cL_law 189 = .ok (.iconst 1, 1) := by decide +kernel
theorem dL_law_190 : decode cL_law 190 = .ok (.iadd, 1) := by decide +kernel
theorem dL_law_191 : decode cL_law 191 = .ok (.iaload, 1) := by decide +kernel
theorem dL_law_192 : decode cL_law 192 = .ok (.aload_n 0, 1) := by decide +kernel
theorem dL_law_193 : decode cL_law 193 = .ok (.iload_n 3, 1) := by decide +kernel
theorem dL_law_194 : decode cL_law 194 = .ok (.iconst 2, 1) := by decide +kernel
theorem dL_law_195 : decode cL_law 195 = .ok (.iadd, 1) := by decide +kernel
theorem dL_law_196 : decode cL_law 196 = .ok (.iaload, 1) := by decide +kernel
theorem dL_law_197 : decode cL_law 197 = .ok (.invokevirtual 23, 3) := by decide +kernel
theorem dL_law_200 : decode cL_law 200 = .ok (.aload_n 2, 1) := by decide +kernel
theorem dL_law_201 : decode cL_law 201 = .ok (.aload_n 0, 1) := by decide +kernel
theorem dL_law_202 : decode cL_law 202 = .ok (.iload_n 3, 1) := by decide +kernel
theorem dL_law_203 : decode cL_law 203 = .ok (.iconst 1, 1) := by decide +kernel
theorem dL_law_204 : decode cL_law 204 = .ok (.iadd, 1) := by decide +kernel
theorem dL_law_205 : decode cL_law 205 = .ok (.iaload, 1) := by decide +kernel
theorem dL_law_206 : decode cL_law 206 = .ok (.aload_n 0, 1) := by decide +kernel
theorem dL_law_207 : decode cL_law 207 = .ok (.iload_n 3, 1) := by decide +kernel
theorem dL_law_208 : decode cL_law 208 = .ok (.iconst 2, 1) := by decide +kernel
theorem dL_law_209 : decode cL_law 209 = .ok (.iadd, 1) := by decide +kernel
theorem dL_law_210 : decode cL_law 210 = .ok (.iaload, 1) := by decide +kernel
theorem dL_law_211 : decode cL_law 211 = .ok (.invokevirtual 26, 3) := by decide +kernel
theorem dL_law_214 : decode cL_law 214 = .ok (.if_icmp .eq 427, 3) := by decide +kernel
theorem dL_law_217 : decode cL_law 217 = .ok (.iconst 0, 1) := by decide +kernel
theorem dL_law_218 : decode cL_law 218 = .ok (.ireturn, 1) := by decide +kernel
theorem dL_law_219 : decode cL_law 219 = .ok (.aload_n 1, 1) := by decide +kernel
theorem dL_law_220 : decode cL_law 220 = .ok (.invokevirtual 27, 3) := by decide +kernel
theorem dL_law_223 : decode cL_law 223 = .ok (.aload_n 2, 1) := by decide +kernel
theorem dL_law_224 : decode cL_law 224 = .ok (.invokevirtual 30, 3) := by decide +kernel
theorem dL_law_227 : decode cL_law 227 = .ok (.if_icmp .eq 414, 3) := by decide +kernel
theorem dL_law_230 : decode cL_law 230 = .ok (.iconst 0, 1) := by decide +kernel
theorem dL_law_231 : decode cL_law 231 = .ok (.ireturn, 1) := by decide +kernel
theorem dL_law_232 : decode cL_law 232 = .ok (.aload_n 1, 1) := by decide +kernel
theorem dL_law_233 : decode cL_law 233 = .ok (.invokevirtual 31, 3) := by decide +kernel
theorem dL_law_236 : decode cL_law 236 = .ok (.aload_n 2, 1) := by decide +kernel
theorem dL_law_237 : decode cL_law 237 = .ok (.invokevirtual 34, 3) := by decide +kernel
theorem dL_law_240 : decode cL_law 240 = .ok (.if_icmp .eq 401, 3) := by decide +kernel
theorem dL_law_243 : decode cL_law 243 = .ok (.iconst 0, 1) := by decide +kernel
theorem dL_law_244 : decode cL_law 244 = .ok (.ireturn, 1) := by decide +kernel
theorem dL_law_245 : decode cL_law 245 = .ok (.aload_n 1, 1) := by decide +kernel
theorem dL_law_246 : decode cL_law 246 = .ok (.invokevirtual 35, 3) := by decide +kernel
theorem dL_law_249 : decode cL_law 249 = .ok (.aload_n 2, 1) := by decide +kernel
theorem dL_law_250 : decode cL_law 250 = .ok (.invokevirtual 38, 3) := by decide +kernel
theorem dL_law_253 : decode cL_law 253 = .ok (.if_icmp .eq 388, 3) := by decide +kernel
theorem dL_law_256 : decode cL_law 256 = .ok (.iconst 0, 1) := by decide +kernel
theorem dL_law_257 : decode cL_law 257 = .ok (.ireturn, 1) := by decide +kernel
theorem dL_law_258 : decode cL_law 258 = .ok (.aload_n 1, 1) := by decide +kernel
theorem dL_law_259 : decode cL_law 259 = .ok (.aload_n 0, 1) := by decide +kernel
theorem dL_law_260 : decode cL_law 260 = .ok (.iload_n 3, 1) := by decide +kernel
theorem dL_law_261 : decode cL_law 261 = .ok (.iconst 1, 1) := by decide +kernel
theorem dL_law_262 : decode cL_law 262 = .ok (.iadd, 1) := by decide +kernel
theorem dL_law_263 : decode cL_law 263 = .ok (.iaload, 1) := by decide +kernel
theorem dL_law_264 : decode cL_law 264 = .ok (.invokevirtual 39, 3) := by decide +kernel
theorem dL_law_267 : decode cL_law 267 = .ok (.aload_n 2, 1) := by decide +kernel
theorem dL_law_268 : decode cL_law 268 = .ok (.aload_n 0, 1) := by decide +kernel
theorem dL_law_269 : decode cL_law 269 = .ok (.iload_n 3, 1) := by decide +kernel
theorem dL_law_270 : decode cL_law 270 = .ok (.iconst 1, 1) := by decide +kernel
theorem dL_law_271 : decode cL_law 271 = .ok (.iadd, 1) := by decide +kernel
theorem dL_law_272 : decode cL_law 272 = .ok (.iaload, 1) := by decide +kernel
theorem dL_law_273 : decode cL_law 273 = .ok (.invokevirtual 43, 3) := by decide +kernel
theorem dL_law_276 : decode cL_law 276 = .ok (.if_icmp .eq 365, 3) := by decide +kernel
theorem dL_law_279 : decode cL_law 279 = .ok (.iconst 0, 1) := by decide +kernel
theorem dL_law_280 : decode cL_law 280 = .ok (.ireturn, 1) := by decide +kernel
theorem dL_law_281 : decode cL_law 281 = .ok (.aload_n 1, 1) := by decide +kernel
theorem dL_law_282 : decode cL_law 282 = .ok (.aload_n 0, 1) := by decide +kernel
theorem dL_law_283 : decode cL_law 283 = .ok (.iload_n 3, 1) := by decide +kernel
theorem dL_law_284 : decode cL_law 284 = .ok (.iconst 1, 1) := by decide +kernel
theorem dL_law_285 : decode cL_law 285 = .ok (.iadd, 1) := by decide +kernel
theorem dL_law_286 : decode cL_law 286 = .ok (.iaload, 1) := by decide +kernel
theorem dL_law_287 : decode cL_law 287 = .ok (.invokevirtual 44, 3) := by decide +kernel
theorem dL_law_290 : decode cL_law 290 = .ok (.aload_n 2, 1) := by decide +kernel
theorem dL_law_291 : decode cL_law 291 = .ok (.aload_n 0, 1) := by decide +kernel
theorem dL_law_292 : decode cL_law 292 = .ok (.iload_n 3, 1) := by decide +kernel
theorem dL_law_293 : decode cL_law 293 = .ok (.iconst 1, 1) := by decide +kernel
theorem dL_law_294 : decode cL_law 294 = .ok (.iadd, 1) := by decide +kernel
theorem dL_law_295 : decode cL_law 295 = .ok (.iaload, 1) := by decide +kernel
theorem dL_law_296 : decode cL_law 296 = .ok (.invokevirtual 47, 3) := by decide +kernel
theorem dL_law_299 : decode cL_law 299 = .ok (.if_icmp .eq 342, 3) := by decide +kernel
theorem dL_law_302 : decode cL_law 302 = .ok (.iconst 0, 1) := by decide +kernel
theorem dL_law_303 : decode cL_law 303 = .ok (.ireturn, 1) := by decide +kernel
theorem dL_law_304 : decode cL_law 304 = .ok (.aload_n 1, 1) := by decide +kernel
theorem dL_law_305 : decode cL_law 305 = .ok (.aload_n 0, 1) := by decide +kernel
theorem dL_law_306 : decode cL_law 306 = .ok (.iload_n 3, 1) := by decide +kernel
theorem dL_law_307 : decode cL_law 307 = .ok (.iconst 1, 1) := by decide +kernel
theorem dL_law_308 : decode cL_law 308 = .ok (.iadd, 1) := by decide +kernel
theorem dL_law_309 : decode cL_law 309 = .ok (.iaload, 1) := by decide +kernel
theorem dL_law_310 : decode cL_law 310 = .ok (.invokevirtual 48, 3) := by decide +kernel
theorem dL_law_313 : decode cL_law 313 = .ok (.aload_n 2, 1) := by decide +kernel
theorem dL_law_314 : decode cL_law 314 = .ok (.aload_n 0, 1) := by decide +kernel
theorem dL_law_315 : decode cL_law 315 = .ok (.iload_n 3, 1) := by decide +kernel
theorem dL_law_316 : decode cL_law 316 = .ok (.iconst 1, 1) := by decide +kernel
theorem dL_law_317 : decode cL_law 317 = .ok (.iadd, 1) := by decide +kernel
theorem dL_law_318 : decode cL_law 318 = .ok (.iaload, 1) := by decide +kernel
theorem dL_law_319 : decode cL_law 319 = .ok (.invokevirtual 51, 3) := by decide +kernel
theorem dL_law_322 : decode cL_law 322 = .ok (.if_icmp .eq 319, 3) := by decide +kernel
theorem dL_law_325 : decode cL_law 325 = .ok (.iconst 0, 1) := by decide +kernel
theorem dL_law_326 : decode cL_law 326 = .ok (.ireturn, 1) := by decide +kernel
theorem dL_law_327 : decode cL_law 327 = .ok (.aload_n 1, 1) := by decide +kernel
theorem dL_law_328 : decode cL_law 328 = .ok (.aload_n 0, 1) := by decide +kernel
theorem dL_law_329 : decode cL_law 329 = .ok (.iload_n 3, 1) := by decide +kernel
theorem dL_law_330 : decode cL_law 330 = .ok (.iconst 1, 1) := by decide +kernel
theorem dL_law_331 : decode cL_law 331 = .ok (.iadd, 1) := by decide +kernel
theorem dL_law_332 : decode cL_law 332 = .ok (.iaload, 1) := by decide +kernel
theorem dL_law_333 : decode cL_law 333 = .ok (.aload_n 0, 1) := by decide +kernel
theorem dL_law_334 : decode cL_law 334 = .ok (.iload_n 3, 1) := by decide +kernel
theorem dL_law_335 : decode cL_law 335 = .ok (.iconst 2, 1) := by decide +kernel
theorem dL_law_336 : decode cL_law 336 = .ok (.iadd, 1) := by decide +kernel
theorem dL_law_337 : decode cL_law 337 = .ok (.iaload, 1) := by decide +kernel
theorem dL_law_338 : decode cL_law 338 = .ok (.invokevirtual 52, 3) := by decide +kernel
theorem dL_law_341 : decode cL_law 341 = .ok (.aload_n 2, 1) := by decide +kernel
theorem dL_law_342 : decode cL_law 342 = .ok (.aload_n 0, 1) := by decide +kernel
theorem dL_law_343 : decode cL_law 343 = .ok (.iload_n 3, 1) := by decide +kernel
theorem dL_law_344 : decode cL_law 344 = .ok (.iconst 1, 1) := by decide +kernel
theorem dL_law_345 : decode cL_law 345 = .ok (.iadd, 1) := by decide +kernel
theorem dL_law_346 : decode cL_law 346 = .ok (.iaload, 1) := by decide +kernel
theorem dL_law_347 : decode cL_law 347 = .ok (.aload_n 0, 1) := by decide +kernel
theorem dL_law_348 : decode cL_law 348 = .ok (.iload_n 3, 1) := by decide +kernel
theorem dL_law_349 : decode cL_law 349 = .ok (.iconst 2, 1) := by decide +kernel
theorem dL_law_350 : decode cL_law 350 = .ok (.iadd, 1) := by decide +kernel
theorem dL_law_351 : decode cL_law 351 = .ok (.iaload, 1) := by decide +kernel
theorem dL_law_352 : decode cL_law 352 = .ok (.invokevirtual 55, 3) := by decide +kernel
theorem dL_law_355 : decode cL_law 355 = .ok (.if_icmp .eq 286, 3) := by decide +kernel
theorem dL_law_358 : decode cL_law 358 = .ok (.iconst 0, 1) := by decide +kernel
theorem dL_law_359 : decode cL_law 359 = .ok (.ireturn, 1) := by decide +kernel
theorem dL_law_360 : decode cL_law 360 = .ok (.aload_n 1, 1) := by decide +kernel
theorem dL_law_361 : decode cL_law 361 = .ok (.aload_n 0, 1) := by decide +kernel
theorem dL_law_362 : decode cL_law 362 = .ok (.iload_n 3, 1) := by decide +kernel
theorem dL_law_363 : decode cL_law 363 = .ok (.iconst 1, 1) := by decide +kernel
theorem dL_law_364 : decode cL_law 364 = .ok (.iadd, 1) := by decide +kernel
theorem dL_law_365 : decode cL_law 365 = .ok (.iaload, 1) := by decide +kernel
theorem dL_law_366 : decode cL_law 366 = .ok (.i2c, 1) := by decide +kernel
theorem dL_law_367 : decode cL_law 367 = .ok (.invokevirtual 56, 3) := by decide +kernel
theorem dL_law_370 : decode cL_law 370 = .ok (.aload_n 2, 1) := by decide +kernel
theorem dL_law_371 : decode cL_law 371 = .ok (.aload_n 0, 1) := by decide +kernel
theorem dL_law_372 : decode cL_law 372 = .ok (.iload_n 3, 1) := by decide +kernel
theorem dL_law_373 : decode cL_law 373 = .ok (.iconst 1, 1) := by decide +kernel
theorem dL_law_374 : decode cL_law 374 = .ok (.iadd, 1) := by decide +kernel
theorem dL_law_375 : decode cL_law 375 = .ok (.iaload, 1) := by decide +kernel
theorem dL_law_376 : decode cL_law 376 = .ok (.i2c, 1) := by decide +kernel
theorem dL_law_377 : decode cL_law 377 = .ok (.invokevirtual 60, 3) := by decide +kernel
theorem dL_law_380 : decode cL_law 380 = .ok (.if_icmp .eq 261, 3) := by decide +kernel
theorem dL_law_383 : decode cL_law 383 = .ok (.iconst 0, 1) := by decide +kernel
theorem dL_law_384 : decode cL_law 384 = .ok (.ireturn, 1) := by decide +kernel
theorem dL_law_385 : decode cL_law 385 = .ok (.aload_n 1, 1) := by decide +kernel
theorem dL_law_386 : decode cL_law 386 = .ok (.invokevirtual 61, 3) := by decide +kernel
theorem dL_law_389 : decode cL_law 389 = .ok (.aload_n 2, 1) := by decide +kernel
theorem dL_law_390 : decode cL_law 390 = .ok (.invokevirtual 64, 3) := by decide +kernel
theorem dL_law_393 : decode cL_law 393 = .ok (.if_icmp .eq 248, 3) := by decide +kernel
theorem dL_law_396 : decode cL_law 396 = .ok (.iconst 0, 1) := by decide +kernel
theorem dL_law_397 : decode cL_law 397 = .ok (.ireturn, 1) := by decide +kernel
theorem dL_law_398 : decode cL_law 398 = .ok (.aload_n 1, 1) := by decide +kernel
theorem dL_law_399 : decode cL_law 399 = .ok (.invokevirtual 65, 3) := by decide +kernel
theorem dL_law_402 : decode cL_law 402 = .ok (.aload_n 2, 1) := by decide +kernel
theorem dL_law_403 : decode cL_law 403 = .ok (.invokevirtual 68, 3) := by decide +kernel
theorem dL_law_406 : decode cL_law 406 = .ok (.if_icmp .eq 235, 3) := by decide +kernel
theorem dL_law_409 : decode cL_law 409 = .ok (.iconst 0, 1) := by decide +kernel
theorem dL_law_410 : decode cL_law 410 = .ok (.ireturn, 1) := by decide +kernel
theorem dL_law_411 : decode cL_law 411 = .ok (.aload_n 1, 1) := by decide +kernel
theorem dL_law_412 : decode cL_law 412 = .ok (.invokevirtual 69, 3) := by decide +kernel
theorem dL_law_415 : decode cL_law 415 = .ok (.aload_n 2, 1) := by decide +kernel
theorem dL_law_416 : decode cL_law 416 = .ok (.invokevirtual 72, 3) := by decide +kernel
theorem dL_law_419 : decode cL_law 419 = .ok (.if_icmp .eq 222, 3) := by decide +kernel
theorem dL_law_422 : decode cL_law 422 = .ok (.iconst 0, 1) := by decide +kernel
theorem dL_law_423 : decode cL_law 423 = .ok (.ireturn, 1) := by decide +kernel
theorem dL_law_424 : decode cL_law 424 = .ok (.aload_n 1, 1) := by decide +kernel
theorem dL_law_425 : decode cL_law 425 = .ok (.invokevirtual 73, 3) := by decide +kernel
theorem dL_law_428 : decode cL_law 428 = .ok (.aload_n 2, 1) := by decide +kernel
theorem dL_law_429 : decode cL_law 429 = .ok (.invokevirtual 76, 3) := by decide +kernel
theorem dL_law_432 : decode cL_law 432 = .ok (.if_icmp .eq 209, 3) := by decide +kernel
theorem dL_law_435 : decode cL_law 435 = .ok (.iconst 0, 1) := by decide +kernel
theorem dL_law_436 : decode cL_law 436 = .ok (.ireturn, 1) := by decide +kernel
theorem dL_law_437 : decode cL_law 437 = .ok (.aload_n 1, 1) := by decide +kernel
theorem dL_law_438 : decode cL_law 438 = .ok (.aload_n 0, 1) := by decide +kernel
theorem dL_law_439 : decode cL_law 439 = .ok (.iload_n 3, 1) := by decide +kernel
theorem dL_law_440 : decode cL_law 440 = .ok (.iconst 1, 1) := by decide +kernel
theorem dL_law_441 : decode cL_law 441 = .ok (.iadd, 1) := by decide +kernel
theorem dL_law_442 : decode cL_law 442 = .ok (.iaload, 1) := by decide +kernel
theorem dL_law_443 : decode cL_law 443 = .ok (.aload_n 0, 1) := by decide +kernel
theorem dL_law_444 : decode cL_law 444 = .ok (.iload_n 3, 1) := by decide +kernel
theorem dL_law_445 : decode cL_law 445 = .ok (.iconst 2, 1) := by decide +kernel
theorem dL_law_446 : decode cL_law 446 = .ok (.iadd, 1) := by decide +kernel
theorem dL_law_447 : decode cL_law 447 = .ok (.iaload, 1) := by decide +kernel
theorem dL_law_448 : decode cL_law 448 = .ok (.invokevirtual 77, 3) := by decide +kernel
theorem dL_law_451 : decode cL_law 451 = .ok (.aload_n 2, 1) := by decide +kernel
theorem dL_law_452 : decode cL_law 452 = .ok (.aload_n 0, 1) := by decide +kernel
theorem dL_law_453 : decode cL_law 453 = .ok (.iload_n 3, 1) := by decide +kernel
theorem dL_law_454 : decode cL_law 454 = .ok (.iconst 1, 1) := by decide +kernel
theorem dL_law_455 : decode cL_law 455 = .ok (.iadd, 1) := by decide +kernel
theorem dL_law_456 : decode cL_law 456 = .ok (.iaload, 1) := by decide +kernel
theorem dL_law_457 : decode cL_law 457 = .ok (.aload_n 0, 1) := by decide +kernel
theorem dL_law_458 : decode cL_law 458 = .ok (.iload_n 3, 1) := by decide +kernel
theorem dL_law_459 : decode cL_law 459 = .ok (.iconst 2, 1) := by decide +kernel
theorem dL_law_460 : decode cL_law 460 = .ok (.iadd, 1) := by decide +kernel
theorem dL_law_461 : decode cL_law 461 = .ok (.iaload, 1) := by decide +kernel
theorem dL_law_462 : decode cL_law 462 = .ok (.invokevirtual 80, 3) := by decide +kernel
theorem dL_law_465 : decode cL_law 465 = .ok (.if_icmp .eq 176, 3) := by decide +kernel
theorem dL_law_468 : decode cL_law 468 = .ok (.iconst 0, 1) := by decide +kernel
theorem dL_law_469 : decode cL_law 469 = .ok (.ireturn, 1) := by decide +kernel
theorem dL_law_470 : decode cL_law 470 = .ok (.aload_n 1, 1) := by decide +kernel
theorem dL_law_471 : decode cL_law 471 = .ok (.aload_n 0, 1) := by decide +kernel
theorem dL_law_472 : decode cL_law 472 = .ok (.iload_n 3, 1) := by decide +kernel
theorem dL_law_473 : decode cL_law 473 = .ok (.iconst 1, 1) := by decide +kernel
theorem dL_law_474 : decode cL_law 474 = .ok (.iadd, 1) := by decide +kernel
theorem dL_law_475 : decode cL_law 475 = .ok (.iaload, 1) := by decide +kernel
theorem dL_law_476 : decode cL_law 476 = .ok (.aload_n 0, 1) := by decide +kernel
theorem dL_law_477 : decode cL_law 477 = .ok (.iload_n 3, 1) := by decide +kernel
theorem dL_law_478 : decode cL_law 478 = .ok (.iconst 2, 1) := by decide +kernel
theorem dL_law_479 : decode cL_law 479 = .ok (.iadd, 1) := by decide +kernel
theorem dL_law_480 : decode cL_law 480 = .ok (.iaload, 1) := by decide +kernel
theorem dL_law_481 : decode cL_law 481 = .ok (.invokevirtual 81, 3) := by decide +kernel
theorem dL_law_484 : decode cL_law 484 = .ok (.aload_n 2, 1) := by decide +kernel
theorem dL_law_485 : decode cL_law 485 = .ok (.aload_n 0, 1) := by decide +kernel
theorem dL_law_486 : decode cL_law 486 = .ok (.iload_n 3, 1) := by decide +kernel
theorem dL_law_487 : decode cL_law 487 = .ok (.iconst 1, 1) := by decide +kernel
theorem dL_law_488 : decode cL_law 488 = .ok (.iadd, 1) := by decide +kernel
theorem dL_law_489 : decode cL_law 489 = .ok (.iaload, 1) := by decide +kernel
theorem dL_law_490 : decode cL_law 490 = .ok (.aload_n 0, 1) := by decide +kernel
theorem dL_law_491 : decode cL_law 491 = .ok (.iload_n 3, 1) := by decide +kernel
theorem dL_law_492 : decode cL_law 492 = .ok (.iconst 2, 1) := by decide +kernel
theorem dL_law_493 : decode cL_law 493 = .ok (.iadd, 1) := by decide +kernel
theorem dL_law_494 : decode cL_law 494 = .ok (.iaload, 1) := by decide +kernel
theorem dL_law_495 : decode cL_law 495 = .ok (.invokevirtual 84, 3) := by decide +kernel
theorem dL_law_498 : decode cL_law 498 = .ok (.if_icmp .eq 143, 3) := by decide +kernel
theorem dL_law_501 : decode cL_law 501 = .ok (.iconst 0, 1) := by decide +kernel
theorem dL_law_502 : decode cL_law 502 = .ok (.ireturn, 1) := by decide +kernel
theorem dL_law_503 : decode cL_law 503 = .ok (.aload_n 1, 1) := by decide +kernel
theorem dL_law_504 : decode cL_law 504 = .ok (.aload_n 0, 1) := by decide +kernel
theorem dL_law_505 : decode cL_law 505 = .ok (.iload_n 3, 1) := by decide +kernel
theorem dL_law_506 : decode cL_law 506 = .ok (.iconst 1, 1) := by decide +kernel
theorem dL_law_507 : decode cL_law 507 = .ok (.iadd, 1) := by decide +kernel
theorem dL_law_508 : decode cL_law 508 = .ok (.iaload, 1) := by decide +kernel
theorem dL_law_509 : decode cL_law 509 = .ok (.aload_n 0, 1) := by decide +kernel
theorem dL_law_510 : decode cL_law 510 = .ok (.iload_n 3, 1) := by decide +kernel
theorem dL_law_511 : decode cL_law 511 = .ok (.iconst 2, 1) := by decide +kernel
theorem dL_law_512 : decode cL_law 512 = .ok (.iadd, 1) := by decide +kernel
theorem dL_law_513 : decode cL_law 513 = .ok (.iaload, 1) := by decide +kernel
theorem dL_law_514 : decode cL_law 514 = .ok (.invokevirtual 85, 3) := by decide +kernel
theorem dL_law_517 : decode cL_law 517 = .ok (.aload_n 2, 1) := by decide +kernel
theorem dL_law_518 : decode cL_law 518 = .ok (.aload_n 0, 1) := by decide +kernel
theorem dL_law_519 : decode cL_law 519 = .ok (.iload_n 3, 1) := by decide +kernel
theorem dL_law_520 : decode cL_law 520 = .ok (.iconst 1, 1) := by decide +kernel
theorem dL_law_521 : decode cL_law 521 = .ok (.iadd, 1) := by decide +kernel
theorem dL_law_522 : decode cL_law 522 = .ok (.iaload, 1) := by decide +kernel
theorem dL_law_523 : decode cL_law 523 = .ok (.aload_n 0, 1) := by decide +kernel
theorem dL_law_524 : decode cL_law 524 = .ok (.iload_n 3, 1) := by decide +kernel
theorem dL_law_525 : decode cL_law 525 = .ok (.iconst 2, 1) := by decide +kernel
theorem dL_law_526 : decode cL_law 526 = .ok (.iadd, 1) := by decide +kernel
theorem dL_law_527 : decode cL_law 527 = .ok (.iaload, 1) := by decide +kernel
theorem dL_law_528 : decode cL_law 528 = .ok (.invokevirtual 88, 3) := by decide +kernel
theorem dL_law_531 : decode cL_law 531 = .ok (.if_icmp .eq 110, 3) := by decide +kernel
theorem dL_law_534 : decode cL_law 534 = .ok (.iconst 0, 1) := by decide +kernel
theorem dL_law_535 : decode cL_law 535 = .ok (.ireturn, 1) := by decide +kernel
theorem dL_law_536 : decode cL_law 536 = .ok (.aload_n 1, 1) := by decide +kernel
theorem dL_law_537 : decode cL_law 537 = .ok (.aload_n 0, 1) := by decide +kernel
theorem dL_law_538 : decode cL_law 538 = .ok (.iload_n 3, 1) := by decide +kernel
theorem dL_law_539 : decode cL_law 539 = .ok (.iconst 1, 1) := by decide +kernel
theorem dL_law_540 : decode cL_law 540 = .ok (.iadd, 1) := by decide +kernel
theorem dL_law_541 : decode cL_law 541 = .ok (.iaload, 1) := by decide +kernel
theorem dL_law_542 : decode cL_law 542 = .ok (.invokevirtual 89, 3) := by decide +kernel
theorem dL_law_545 : decode cL_law 545 = .ok (.aload_n 2, 1) := by decide +kernel
theorem dL_law_546 : decode cL_law 546 = .ok (.aload_n 0, 1) := by decide +kernel
theorem dL_law_547 : decode cL_law 547 = .ok (.iload_n 3, 1) := by decide +kernel
theorem dL_law_548 : decode cL_law 548 = .ok (.iconst 1, 1) := by decide +kernel
theorem dL_law_549 : decode cL_law 549 = .ok (.iadd, 1) := by decide +kernel
theorem dL_law_550 : decode cL_law 550 = .ok (.iaload, 1) := by decide +kernel
theorem dL_law_551 : decode cL_law 551 = .ok (.invokevirtual 92, 3) := by decide +kernel
theorem dL_law_554 : decode cL_law 554 = .ok (.if_icmp .eq 87, 3) := by decide +kernel
theorem dL_law_557 : decode cL_law 557 = .ok (.iconst 0, 1) := by decide +kernel
theorem dL_law_558 : decode cL_law 558 = .ok (.ireturn, 1) := by decide +kernel
theorem dL_law_559 : decode cL_law 559 = .ok (.aload_n 1, 1) := by decide +kernel
theorem dL_law_560 : decode cL_law 560 = .ok (.aload_n 0, 1) := by decide +kernel
theorem dL_law_561 : decode cL_law 561 = .ok (.iload_n 3, 1) := by decide +kernel
theorem dL_law_562 : decode cL_law 562 = .ok (.iconst 1, 1) := by decide +kernel
theorem dL_law_563 : decode cL_law 563 = .ok (.iadd, 1) := by decide +kernel
theorem dL_law_564 : decode cL_law 564 = .ok (.iaload, 1) := by decide +kernel
theorem dL_law_565 : decode cL_law 565 = .ok (.invokevirtual 93, 3) := by decide +kernel
theorem dL_law_568 : decode cL_law 568 = .ok (.aload_n 2, 1) := by decide +kernel
theorem dL_law_569 : decode cL_law 569 = .ok (.aload_n 0, 1) := by decide +kernel
theorem dL_law_570 : decode cL_law 570 = .ok (.iload_n 3, 1) := by decide +kernel
theorem dL_law_571 : decode cL_law 571 = .ok (.iconst 1, 1) := by decide +kernel
theorem dL_law_572 : decode cL_law 572 = .ok (.iadd, 1) := by decide +kernel
theorem dL_law_573 : decode cL_law 573 = .ok (.iaload, 1) := by decide +kernel
theorem dL_law_574 : decode cL_law 574 = .ok (.invokevirtual 96, 3) := by decide +kernel
theorem dL_law_577 : decode cL_law 577 = .ok (.if_icmp .eq 64, 3) := by decide +kernel
theorem dL_law_580 : decode cL_law 580 = .ok (.iconst 0, 1) := by decide +kernel
theorem dL_law_581 : decode cL_law 581 = .ok (.ireturn, 1) := by decide +kernel
theorem dL_law_582 : decode cL_law 582 = .ok (.aload_n 1, 1) := by decide +kernel
theorem dL_law_583 : decode cL_law 583 = .ok (.invokevirtual 97, 3) := by decide +kernel
theorem dL_law_586 : decode cL_law 586 = .ok (.aload_n 2, 1) := by decide +kernel
theorem dL_law_587 : decode cL_law 587 = .ok (.invokevirtual 100, 3) := by decide +kernel
theorem dL_law_590 : decode cL_law 590 = .ok (.if_icmp .eq 51, 3) := by decide +kernel
theorem dL_law_593 : decode cL_law 593 = .ok (.iconst 0, 1) := by decide +kernel
theorem dL_law_594 : decode cL_law 594 = .ok (.ireturn, 1) := by decide +kernel
theorem dL_law_595 : decode cL_law 595 = .ok (.aload_n 1, 1) := by decide +kernel
theorem dL_law_596 : decode cL_law 596 = .ok (.aload_n 0, 1) := by decide +kernel
theorem dL_law_597 : decode cL_law 597 = .ok (.iload_n 3, 1) := by decide +kernel
theorem dL_law_598 : decode cL_law 598 = .ok (.iconst 1, 1) := by decide +kernel
theorem dL_law_599 : decode cL_law 599 = .ok (.iadd, 1) := by decide +kernel
theorem dL_law_600 : decode cL_law 600 = .ok (.iaload, 1) := by decide +kernel
theorem dL_law_601 : decode cL_law 601 = .ok (.invokevirtual 101, 3) := by decide +kernel
theorem dL_law_604 : decode cL_law 604 = .ok (.aload_n 2, 1) := by decide +kernel
theorem dL_law_605 : decode cL_law 605 = .ok (.aload_n 0, 1) := by decide +kernel
theorem dL_law_606 : decode cL_law 606 = .ok (.iload_n 3, 1) := by decide +kernel
theorem dL_law_607 : decode cL_law 607 = .ok (.iconst 1, 1) := by decide +kernel
theorem dL_law_608 : decode cL_law 608 = .ok (.iadd, 1) := by decide +kernel
theorem dL_law_609 : decode cL_law 609 = .ok (.iaload, 1) := by decide +kernel
theorem dL_law_610 : decode cL_law 610 = .ok (.invokevirtual 104, 3) := by decide +kernel
theorem dL_law_613 : decode cL_law 613 = .ok (.if_icmp .eq 28, 3) := by decide +kernel
theorem dL_law_616 : decode cL_law 616 = .ok (.iconst 0, 1) := by decide +kernel
theorem dL_law_617 : decode cL_law 617 = .ok (.ireturn, 1) := by decide +kernel
theorem dL_law_618 : decode cL_law 618 = .ok (.aload_n 1, 1) := by decide +kernel
theorem dL_law_619 : decode cL_law 619 = .ok (.aload_n 0, 1) := by decide +kernel
theorem dL_law_620 : decode cL_law 620 = .ok (.iload_n 3, 1) := by decide +kernel
theorem dL_law_621 : decode cL_law 621 = .ok (.iconst 1, 1) := by decide +kernel
theorem dL_law_622 : decode cL_law 622 = .ok (.iadd, 1) := by decide +kernel
theorem dL_law_623 : decode cL_law 623 = .ok (.iaload, 1) := by decide +kernel
theorem dL_law_624 : decode cL_law 624 = .ok (.invokevirtual 105, 3) := by decide +kernel
theorem dL_law_627 : decode cL_law 627 = .ok (.aload_n 2, 1) := by decide +kernel
theorem dL_law_628 : decode cL_law 628 = .ok (.aload_n 0, 1) := by decide +kernel
theorem dL_law_629 : decode cL_law 629 = .ok (.iload_n 3, 1) := by decide +kernel
theorem dL_law_630 : decode cL_law 630 = .ok (.iconst 1, 1) := by decide +kernel
theorem dL_law_631 : decode cL_law 631 = .ok (.iadd, 1) := by decide +kernel
theorem dL_law_632 : decode cL_law 632 = .ok (.iaload, 1) := by decide +kernel
theorem dL_law_633 : decode cL_law 633 = .ok (.invokevirtual 108, 3) := by decide +kernel
theorem dL_law_636 : decode cL_law 636 = .ok (.if_icmp .eq 5, 3) := by decide +kernel
theorem dL_law_639 : decode cL_law 639 = .ok (.iconst 0, 1) := by decide +kernel
theorem dL_law_640 : decode cL_law 640 = .ok (.ireturn, 1) := by decide +kernel
theorem dL_law_641 : decode cL_law 641 = .ok (.iinc 3 3, 3) := by decide +kernel
theorem dL_law_644 : decode cL_law 644 = .ok (.goto (-626), 3) := by decide +kernel
theorem dL_law_647 : decode cL_law 647 = .ok (.iconst 1, 1) := by decide +kernel
theorem dL_law_648 : decode cL_law 648 = .ok (.ireturn, 1) := by decide +kernel
abbrev vwCl : List vw_C := [(RX0, TX0, 4), (RX1, TX1, 2), (RX2, TX2, 2), (RX3, TX3, 1), (RX4, TX4, 4), (RX5, TX5, 5), (RX6, TX6, 10), (RX7, TX7, 7), (RX8, TX8, 13)]
end
