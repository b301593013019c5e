section
-- ===== PART A: goes FIRST, ahead of the names: the tables' words, and 'selects' of the private methods out of them =====
/-- a private method of a class that the tables say can be made, by its rows of tables_1 -/
def lw_okq (q : MethodName × Nat) : Prop := (q.1.cls ≠ "java/lang/invoke/MethodHandle" ∧ q.1.cls ≠ "java/lang/invoke/VarHandle") ∧ Cond.instantiable q.1.cls q.2 ∈ tables_1 ∧ Cond.privateMethod q.1 ∈ tables_1 ∧ Cond.instanceMethod q.1 ∈ tables_1
theorem lw_p0 : lw_okq (⟨"RepealedLaws", "errorOfBill", "(IIII)I"⟩, 5) := ⟨⟨by decide +kernel, by decide +kernel⟩, List.mem_of_getElem? (i := 9) (by decide +kernel), List.mem_of_getElem? (i := 176) (by decide +kernel), List.mem_of_getElem? (i := 177) (by decide +kernel)⟩
theorem lw_p1 : lw_okq (⟨"RepealedLaws", "voteOn", "(III)Z"⟩, 5) := ⟨⟨by decide +kernel, by decide +kernel⟩, List.mem_of_getElem? (i := 9) (by decide +kernel), List.mem_of_getElem? (i := 296) (by decide +kernel), List.mem_of_getElem? (i := 297) (by decide +kernel)⟩
theorem lw_p2 : lw_okq (⟨"RepealedLawsModel", "changes", "()V"⟩, 10) := ⟨⟨by decide +kernel, by decide +kernel⟩, List.mem_of_getElem? (i := 455) (by decide +kernel), List.mem_of_getElem? (i := 505) (by decide +kernel), List.mem_of_getElem? (i := 506) (by decide +kernel)⟩
theorem lw_p3 : lw_okq (⟨"RepealedLawsModel", "wrong", "(IIII)I"⟩, 10) := ⟨⟨by decide +kernel, by decide +kernel⟩, List.mem_of_getElem? (i := 455) (by decide +kernel), List.mem_of_getElem? (i := 532) (by decide +kernel), List.mem_of_getElem? (i := 533) (by decide +kernel)⟩
theorem lw_p4 : lw_okq (⟨"RepealedLawsModel", "isLaw", "(I)Z"⟩, 10) := ⟨⟨by decide +kernel, by decide +kernel⟩, List.mem_of_getElem? (i := 455) (by decide +kernel), List.mem_of_getElem? (i := 536) (by decide +kernel), List.mem_of_getElem? (i := 537) (by decide +kernel)⟩
theorem lw_p5 : lw_okq (⟨"RepealedLawsModel", "reason", "(IIII)I"⟩, 10) := ⟨⟨by decide +kernel, by decide +kernel⟩, List.mem_of_getElem? (i := 455) (by decide +kernel), List.mem_of_getElem? (i := 544) (by decide +kernel), List.mem_of_getElem? (i := 545) (by decide +kernel)⟩
theorem lw_p6 : lw_okq (⟨"RepealedLawsModel", "isThereAlike", "(IIII)Z"⟩, 10) := ⟨⟨by decide +kernel, by decide +kernel⟩, List.mem_of_getElem? (i := 455) (by decide +kernel), List.mem_of_getElem? (i := 548) (by decide +kernel), List.mem_of_getElem? (i := 549) (by decide +kernel)⟩
theorem lw_p7 : lw_okq (⟨"RepealedLawsModel", "isInForce", "(I)Z"⟩, 10) := ⟨⟨by decide +kernel, by decide +kernel⟩, List.mem_of_getElem? (i := 455) (by decide +kernel), List.mem_of_getElem? (i := 552) (by decide +kernel), List.mem_of_getElem? (i := 553) (by decide +kernel)⟩
theorem lw_p8 : lw_okq (⟨"RepealedLawsModel", "get", "(II)I"⟩, 10) := ⟨⟨by decide +kernel, by decide +kernel⟩, List.mem_of_getElem? (i := 455) (by decide +kernel), List.mem_of_getElem? (i := 556) (by decide +kernel), List.mem_of_getElem? (i := 557) (by decide +kernel)⟩
theorem lw_p9 : lw_okq (⟨"RepealedLawsModel", "isLike", "(IIII)Z"⟩, 10) := ⟨⟨by decide +kernel, by decide +kernel⟩, List.mem_of_getElem? (i := 455) (by decide +kernel), List.mem_of_getElem? (i := 560) (by decide +kernel), List.mem_of_getElem? (i := 561) (by decide +kernel)⟩
theorem lw_p10 : lw_okq (⟨"RepealedLawsModel", "isRemembered", "(III)Z"⟩, 10) := ⟨⟨by decide +kernel, by decide +kernel⟩, List.mem_of_getElem? (i := 455) (by decide +kernel), List.mem_of_getElem? (i := 564) (by decide +kernel), List.mem_of_getElem? (i := 565) (by decide +kernel)⟩
theorem lw_p11 : lw_okq (⟨"RepealedLawsModel", "isThereAsLong", "(I)Z"⟩, 10) := ⟨⟨by decide +kernel, by decide +kernel⟩, List.mem_of_getElem? (i := 455) (by decide +kernel), List.mem_of_getElem? (i := 568) (by decide +kernel), List.mem_of_getElem? (i := 569) (by decide +kernel)⟩
theorem lw_p12 : lw_okq (⟨"RepealedLawsModel", "inForce", "(I)I"⟩, 10) := ⟨⟨by decide +kernel, by decide +kernel⟩, List.mem_of_getElem? (i := 455) (by decide +kernel), List.mem_of_getElem? (i := 572) (by decide +kernel), List.mem_of_getElem? (i := 573) (by decide +kernel)⟩
theorem lw_p13 : lw_okq (⟨"RepealedLawsModel", "voters", "(III)I"⟩, 10) := ⟨⟨by decide +kernel, by decide +kernel⟩, List.mem_of_getElem? (i := 455) (by decide +kernel), List.mem_of_getElem? (i := 576) (by decide +kernel), List.mem_of_getElem? (i := 577) (by decide +kernel)⟩
theorem lw_p14 : lw_okq (⟨"RepealedLawsModel", "joy", "(III)I"⟩, 10) := ⟨⟨by decide +kernel, by decide +kernel⟩, List.mem_of_getElem? (i := 455) (by decide +kernel), List.mem_of_getElem? (i := 580) (by decide +kernel), List.mem_of_getElem? (i := 581) (by decide +kernel)⟩
theorem lw_p15 : lw_okq (⟨"RepealedLawsModel", "passes", "(IIII)I"⟩, 10) := ⟨⟨by decide +kernel, by decide +kernel⟩, List.mem_of_getElem? (i := 455) (by decide +kernel), List.mem_of_getElem? (i := 587) (by decide +kernel), List.mem_of_getElem? (i := 588) (by decide +kernel)⟩
def lw_privs_1 : List (MethodName × Nat) := [(⟨"RepealedLaws", "errorOfBill", "(IIII)I"⟩, 5), (⟨"RepealedLaws", "voteOn", "(III)Z"⟩, 5), (⟨"RepealedLawsModel", "changes", "()V"⟩, 10), (⟨"RepealedLawsModel", "wrong", "(IIII)I"⟩, 10), (⟨"RepealedLawsModel", "isLaw", "(I)Z"⟩, 10), (⟨"RepealedLawsModel", "reason", "(IIII)I"⟩, 10), (⟨"RepealedLawsModel", "isThereAlike", "(IIII)Z"⟩, 10), (⟨"RepealedLawsModel", "isInForce", "(I)Z"⟩, 10), (⟨"RepealedLawsModel", "get", "(II)I"⟩, 10), (⟨"RepealedLawsModel", "isLike", "(IIII)Z"⟩, 10), (⟨"RepealedLawsModel", "isRemembered", "(III)Z"⟩, 10), (⟨"RepealedLawsModel", "isThereAsLong", "(I)Z"⟩, 10), (⟨"RepealedLawsModel", "inForce", "(I)I"⟩, 10), (⟨"RepealedLawsModel", "voters", "(III)I"⟩, 10), (⟨"RepealedLawsModel", "joy", "(III)I"⟩, 10), (⟨"RepealedLawsModel", "passes", "(IIII)I"⟩, 10)]
theorem lw_r1 : ∀ q ∈ lw_privs_1, lw_okq q := List.forall_mem_cons.mpr ⟨lw_p0, List.forall_mem_cons.mpr ⟨lw_p1, List.forall_mem_cons.mpr ⟨lw_p2, List.forall_mem_cons.mpr ⟨lw_p3, List.forall_mem_cons.mpr ⟨lw_p4, List.forall_mem_cons.mpr ⟨lw_p5, List.forall_mem_cons.mpr ⟨lw_p6, List.forall_mem_cons.mpr ⟨lw_p7, List.forall_mem_cons.mpr ⟨lw_p8, List.forall_mem_cons.mpr ⟨lw_p9, List.forall_mem_cons.mpr ⟨lw_p10, List.forall_mem_cons.mpr ⟨lw_p11, List.forall_mem_cons.mpr ⟨lw_p12, List.forall_mem_cons.mpr ⟨lw_p13, List.forall_mem_cons.mpr ⟨lw_p14, List.forall_mem_cons.mpr ⟨lw_p15, fun _ h => absurd h List.not_mem_nil⟩⟩⟩⟩⟩⟩⟩⟩⟩⟩⟩⟩⟩⟩⟩⟩
theorem lw_p16 : lw_okq (⟨"RepealedLawsModel", "lays", "(III)V"⟩, 10) := ⟨⟨by decide +kernel, by decide +kernel⟩, List.mem_of_getElem? (i := 455) (by decide +kernel), List.mem_of_getElem? (i := 591) (by decide +kernel), List.mem_of_getElem? (i := 592) (by decide +kernel)⟩
theorem lw_p17 : lw_okq (⟨"RepealedLawsModel", "ends", "()I"⟩, 10) := ⟨⟨by decide +kernel, by decide +kernel⟩, List.mem_of_getElem? (i := 455) (by decide +kernel), List.mem_of_getElem? (i := 603) (by decide +kernel), List.mem_of_getElem? (i := 604) (by decide +kernel)⟩
theorem lw_p18 : lw_okq (⟨"RepealedLawsModel", "against", "(I)I"⟩, 10) := ⟨⟨by decide +kernel, by decide +kernel⟩, List.mem_of_getElem? (i := 455) (by decide +kernel), List.mem_of_getElem? (i := 611) (by decide +kernel), List.mem_of_getElem? (i := 612) (by decide +kernel)⟩
theorem lw_p19 : lw_okq (⟨"RepealedLawsModel", "contradict", "(II)Z"⟩, 10) := ⟨⟨by decide +kernel, by decide +kernel⟩, List.mem_of_getElem? (i := 455) (by decide +kernel), List.mem_of_getElem? (i := 615) (by decide +kernel), List.mem_of_getElem? (i := 616) (by decide +kernel)⟩
theorem lw_p20 : lw_okq (⟨"RepealedLawsModel", "holder", "(I)I"⟩, 10) := ⟨⟨by decide +kernel, by decide +kernel⟩, List.mem_of_getElem? (i := 455) (by decide +kernel), List.mem_of_getElem? (i := 619) (by decide +kernel), List.mem_of_getElem? (i := 620) (by decide +kernel)⟩
theorem lw_p21 : lw_okq (⟨"RepealedLawsModel", "holds", "(I)I"⟩, 10) := ⟨⟨by decide +kernel, by decide +kernel⟩, List.mem_of_getElem? (i := 455) (by decide +kernel), List.mem_of_getElem? (i := 628) (by decide +kernel), List.mem_of_getElem? (i := 629) (by decide +kernel)⟩
theorem lw_p22 : lw_okq (⟨"RepealedLawsModel", "pairs", "(I)I"⟩, 10) := ⟨⟨by decide +kernel, by decide +kernel⟩, List.mem_of_getElem? (i := 455) (by decide +kernel), List.mem_of_getElem? (i := 632) (by decide +kernel), List.mem_of_getElem? (i := 633) (by decide +kernel)⟩
theorem lw_p23 : lw_okq (⟨"RepealedLawsModel", "wishers", "(I)I"⟩, 10) := ⟨⟨by decide +kernel, by decide +kernel⟩, List.mem_of_getElem? (i := 455) (by decide +kernel), List.mem_of_getElem? (i := 636) (by decide +kernel), List.mem_of_getElem? (i := 637) (by decide +kernel)⟩
theorem lw_p24 : lw_okq (⟨"RepealedLawsModel", "granted", "(I)I"⟩, 10) := ⟨⟨by decide +kernel, by decide +kernel⟩, List.mem_of_getElem? (i := 455) (by decide +kernel), List.mem_of_getElem? (i := 644) (by decide +kernel), List.mem_of_getElem? (i := 645) (by decide +kernel)⟩
theorem lw_p25 : lw_okq (⟨"RepealedLawsModel", "liked", "(I)I"⟩, 10) := ⟨⟨by decide +kernel, by decide +kernel⟩, List.mem_of_getElem? (i := 455) (by decide +kernel), List.mem_of_getElem? (i := 648) (by decide +kernel), List.mem_of_getElem? (i := 649) (by decide +kernel)⟩
theorem lw_p26 : lw_okq (⟨"RepealedLawsModel", "words", "()I"⟩, 10) := ⟨⟨by decide +kernel, by decide +kernel⟩, List.mem_of_getElem? (i := 455) (by decide +kernel), List.mem_of_getElem? (i := 656) (by decide +kernel), List.mem_of_getElem? (i := 657) (by decide +kernel)⟩
theorem lw_p27 : lw_okq (⟨"RepealedLawsModel", "ruledTopics", "()I"⟩, 10) := ⟨⟨by decide +kernel, by decide +kernel⟩, List.mem_of_getElem? (i := 455) (by decide +kernel), List.mem_of_getElem? (i := 660) (by decide +kernel), List.mem_of_getElem? (i := 661) (by decide +kernel)⟩
theorem lw_p28 : lw_okq (⟨"RepealedLawsModel", "best", "(III)I"⟩, 10) := ⟨⟨by decide +kernel, by decide +kernel⟩, List.mem_of_getElem? (i := 455) (by decide +kernel), List.mem_of_getElem? (i := 673) (by decide +kernel), List.mem_of_getElem? (i := 674) (by decide +kernel)⟩
theorem lw_p29 : lw_okq (⟨"RepealedLawsModel", "wouldPass", "(III)Z"⟩, 10) := ⟨⟨by decide +kernel, by decide +kernel⟩, List.mem_of_getElem? (i := 455) (by decide +kernel), List.mem_of_getElem? (i := 681) (by decide +kernel), List.mem_of_getElem? (i := 682) (by decide +kernel)⟩
theorem lw_p30 : lw_okq (⟨"RepealedLawsModel", "readsBill", "()Z"⟩, 10) := ⟨⟨by decide +kernel, by decide +kernel⟩, List.mem_of_getElem? (i := 455) (by decide +kernel), List.mem_of_getElem? (i := 707) (by decide +kernel), List.mem_of_getElem? (i := 708) (by decide +kernel)⟩
theorem lw_p31 : lw_okq (⟨"RepealedLawsModel", "isHere", "(II)Z"⟩, 10) := ⟨⟨by decide +kernel, by decide +kernel⟩, List.mem_of_getElem? (i := 455) (by decide +kernel), List.mem_of_getElem? (i := 711) (by decide +kernel), List.mem_of_getElem? (i := 712) (by decide +kernel)⟩
def lw_privs_2 : List (MethodName × Nat) := [(⟨"RepealedLawsModel", "lays", "(III)V"⟩, 10), (⟨"RepealedLawsModel", "ends", "()I"⟩, 10), (⟨"RepealedLawsModel", "against", "(I)I"⟩, 10), (⟨"RepealedLawsModel", "contradict", "(II)Z"⟩, 10), (⟨"RepealedLawsModel", "holder", "(I)I"⟩, 10), (⟨"RepealedLawsModel", "holds", "(I)I"⟩, 10), (⟨"RepealedLawsModel", "pairs", "(I)I"⟩, 10), (⟨"RepealedLawsModel", "wishers", "(I)I"⟩, 10), (⟨"RepealedLawsModel", "granted", "(I)I"⟩, 10), (⟨"RepealedLawsModel", "liked", "(I)I"⟩, 10), (⟨"RepealedLawsModel", "words", "()I"⟩, 10), (⟨"RepealedLawsModel", "ruledTopics", "()I"⟩, 10), (⟨"RepealedLawsModel", "best", "(III)I"⟩, 10), (⟨"RepealedLawsModel", "wouldPass", "(III)Z"⟩, 10), (⟨"RepealedLawsModel", "readsBill", "()Z"⟩, 10), (⟨"RepealedLawsModel", "isHere", "(II)Z"⟩, 10)]
theorem lw_r2 : ∀ q ∈ lw_privs_2, lw_okq q := List.forall_mem_cons.mpr ⟨lw_p16, List.forall_mem_cons.mpr ⟨lw_p17, List.forall_mem_cons.mpr ⟨lw_p18, List.forall_mem_cons.mpr ⟨lw_p19, List.forall_mem_cons.mpr ⟨lw_p20, List.forall_mem_cons.mpr ⟨lw_p21, List.forall_mem_cons.mpr ⟨lw_p22, List.forall_mem_cons.mpr ⟨lw_p23, List.forall_mem_cons.mpr ⟨lw_p24, List.forall_mem_cons.mpr ⟨lw_p25, List.forall_mem_cons.mpr ⟨lw_p26, List.forall_mem_cons.mpr ⟨lw_p27, List.forall_mem_cons.mpr ⟨lw_p28, List.forall_mem_cons.mpr ⟨lw_p29, List.forall_mem_cons.mpr ⟨lw_p30, List.forall_mem_cons.mpr ⟨lw_p31, fun _ h => absurd h List.not_mem_nil⟩⟩⟩⟩⟩⟩⟩⟩⟩⟩⟩⟩⟩⟩⟩⟩
theorem lw_p32 : lw_okq (⟨"RepealedLawsModel", "takesOne", "(I)Z"⟩, 10) := ⟨⟨by decide +kernel, by decide +kernel⟩, List.mem_of_getElem? (i := 455) (by decide +kernel), List.mem_of_getElem? (i := 715) (by decide +kernel), List.mem_of_getElem? (i := 716) (by decide +kernel)⟩
def lw_privs_3 : List (MethodName × Nat) := [(⟨"RepealedLawsModel", "takesOne", "(I)Z"⟩, 10)]
theorem lw_r3 : ∀ q ∈ lw_privs_3, lw_okq q := List.forall_mem_cons.mpr ⟨lw_p32, fun _ h => absurd h List.not_mem_nil⟩
def lw_privs : List (MethodName × Nat) := lw_privs_1 ++ (lw_privs_2 ++ (lw_privs_3))
def lw_tbl : List Cond := k2_sels lw_privs ++ tables_1
theorem lw_privs_ok : ∀ q ∈ lw_privs, lw_okq q := by
  show ∀ q ∈ lw_privs_1 ++ (lw_privs_2 ++ (lw_privs_3)), lw_okq q
  exact List.forall_mem_append.mpr ⟨lw_r1, List.forall_mem_append.mpr ⟨lw_r2, lw_r3⟩⟩
end
section
/-! ===== END ===== -/

/-! ===== BEGIN printed: names, fields, word lists, decode rows ===== -/
def RX0 : String := "RepealedLaws$Code"
def TX0 : u_T := fun k => match k with
  | 0 => ("RepealedLaws$Code", "settings", "[I", true)
  | 1 => ("RepealedLaws$Code", "wishes", "[I", true)
  | 2 => ("RepealedLaws$Code", "lengths", "[I", true)
  | 3 => ("RepealedLaws$Code", "topics", "[I", true)
  | 4 => ("RepealedLaws$Code", "stances", "[I", true)
  | 5 => ("RepealedLaws$Code", "madeIn", "[I", true)
  | 6 => ("RepealedLaws$Code", "repealedIn", "[I", true)
  | 7 => ("RepealedLaws$Code", "repealOf", "[I", true)
  | 8 => ("RepealedLaws$Code", "repealedBy", "[I", true)
  | 9 => ("RepealedLaws$Code", "made", "I", false)
  | 10 => ("RepealedLaws$Code", "session", "I", false)
  | _ => ("RepealedLaws$Code", "failures", "I", false)
def tyX0 : Nat → FieldType := fun k => match k with
  | 0 => .array .int
  | 1 => .array .int
  | 2 => .array .int
  | 3 => .array .int
  | 4 => .array .int
  | 5 => .array .int
  | 6 => .array .int
  | 7 => .array .int
  | 8 => .array .int
  | 9 => .int
  | 10 => .int
  | _ => .int
abbrev wsX00 : List Cond := u_ws RX0 TX0 12
theorem nmX0 : ∀ a, a < 12 → ∀ b, b < 12 → a ≠ b → (TX0 a).2.1 ≠ (TX0 b).2.1 := by decide +kernel
theorem tyX0_ok : ∀ k, k < 12 → parseFieldDescriptor (TX0 k).2.2.1 = some (tyX0 k) := by decide +kernel
abbrev cX0_init : ByteArray := prog_2_method_1_code
def yX0_init : MethodName := ⟨RX0, "<init>", "()V"⟩
abbrev cX0_become : ByteArray := prog_2_method_2_code
def yX0_become : MethodName := ⟨RX0, "become", "(LRepealedLaws$Code;)V"⟩
abbrev cX0_wishOf : ByteArray := prog_2_method_3_code
def yX0_wishOf : MethodName := ⟨RX0, "wishOf", "(II)I"⟩
abbrev cX0_changeWish : ByteArray := prog_2_method_4_code
def yX0_changeWish : MethodName := ⟨RX0, "changeWish", "(III)V"⟩
abbrev cX0_isFull : ByteArray := prog_2_method_5_code
def yX0_isFull : MethodName := ⟨RX0, "isFull", "()Z"⟩
abbrev cX0_isLaw : ByteArray := prog_2_method_6_code
def yX0_isLaw : MethodName := ⟨RX0, "isLaw", "(I)Z"⟩
abbrev cX0_inForce : ByteArray := prog_2_method_7_code
def yX0_inForce : MethodName := ⟨RX0, "inForce", "(I)Z"⟩
abbrev cX0_inForceIn : ByteArray := prog_2_method_8_code
def yX0_inForceIn : MethodName := ⟨RX0, "inForceIn", "(II)Z"⟩
abbrev cX0_isLike : ByteArray := prog_2_method_9_code
def yX0_isLike : MethodName := ⟨RX0, "isLike", "(IIII)Z"⟩
abbrev cX0_contradict : ByteArray := prog_2_method_10_code
def yX0_contradict : MethodName := ⟨RX0, "contradict", "(II)Z"⟩
abbrev cX0_lawsInForce : ByteArray := prog_2_method_11_code
def yX0_lawsInForce : MethodName := ⟨RX0, "lawsInForce", "()I"⟩
abbrev cX0_lawsInForceIn : ByteArray := prog_2_method_12_code
def yX0_lawsInForceIn : MethodName := ⟨RX0, "lawsInForceIn", "(I)I"⟩
abbrev cX0_lawsInForceWith : ByteArray := prog_2_method_13_code
def yX0_lawsInForceWith : MethodName := ⟨RX0, "lawsInForceWith", "(II)I"⟩
abbrev cX0_wordsInForce : ByteArray := prog_2_method_14_code
def yX0_wordsInForce : MethodName := ⟨RX0, "wordsInForce", "()I"⟩
abbrev cX0_madeInThisSession : ByteArray := prog_2_method_15_code
def yX0_madeInThisSession : MethodName := ⟨RX0, "madeInThisSession", "()I"⟩
abbrev cX0_holderIn : ByteArray := prog_2_method_16_code
def yX0_holderIn : MethodName := ⟨RX0, "holderIn", "(I)I"⟩
abbrev cX0_stanceHeldIn : ByteArray := prog_2_method_17_code
def yX0_stanceHeldIn : MethodName := ⟨RX0, "stanceHeldIn", "(I)I"⟩
abbrev cX0_topicsWithHolder : ByteArray := prog_2_method_18_code
def yX0_topicsWithHolder : MethodName := ⟨RX0, "topicsWithHolder", "()I"⟩
abbrev cX0_contradictionsOf : ByteArray := prog_2_method_19_code
def yX0_contradictionsOf : MethodName := ⟨RX0, "contradictionsOf", "(I)I"⟩
abbrev cX0_contradictionsIn : ByteArray := prog_2_method_20_code
def yX0_contradictionsIn : MethodName := ⟨RX0, "contradictionsIn", "(I)I"⟩
abbrev cX0_contradictionsByTopics : ByteArray := prog_2_method_21_code
def yX0_contradictionsByTopics : MethodName := ⟨RX0, "contradictionsByTopics", "()I"⟩
abbrev cX0_contradictionsByPairs : ByteArray := prog_2_method_22_code
def yX0_contradictionsByPairs : MethodName := ⟨RX0, "contradictionsByPairs", "()I"⟩
abbrev cX0_councillorsContentIn : ByteArray := prog_2_method_23_code
def yX0_councillorsContentIn : MethodName := ⟨RX0, "councillorsContentIn", "(I)I"⟩
abbrev cX0_topicsAsWishedBy : ByteArray := prog_2_method_24_code
def yX0_topicsAsWishedBy : MethodName := ⟨RX0, "topicsAsWishedBy", "(I)I"⟩
abbrev cX0_lawsAsWishedBy : ByteArray := prog_2_method_25_code
def yX0_lawsAsWishedBy : MethodName := ⟨RX0, "lawsAsWishedBy", "(I)I"⟩
abbrev cX0_joyAt : ByteArray := prog_2_method_26_code
def yX0_joyAt : MethodName := ⟨RX0, "joyAt", "(III)I"⟩
abbrev cX0_votersFor : ByteArray := prog_2_method_27_code
def yX0_votersFor : MethodName := ⟨RX0, "votersFor", "(III)I"⟩
abbrev cX0_isLikeAnotherInForce : ByteArray := prog_2_method_28_code
def yX0_isLikeAnotherInForce : MethodName := ⟨RX0, "isLikeAnotherInForce", "(IIII)Z"⟩
abbrev cX0_wasRepealedLately : ByteArray := prog_2_method_29_code
def yX0_wasRepealedLately : MethodName := ⟨RX0, "wasRepealedLately", "(III)Z"⟩
abbrev cX0_hasInForceOfLength : ByteArray := prog_2_method_30_code
def yX0_hasInForceOfLength : MethodName := ⟨RX0, "hasInForceOfLength", "(I)Z"⟩
abbrev cX0_reasonAgainst : ByteArray := prog_2_method_31_code
def yX0_reasonAgainst : MethodName := ⟨RX0, "reasonAgainst", "(IIII)I"⟩
abbrev cX0_bestRepealFor : ByteArray := prog_2_method_32_code
def yX0_bestRepealFor : MethodName := ⟨RX0, "bestRepealFor", "(III)I"⟩
abbrev cX0_votesIfPassing : ByteArray := prog_2_method_33_code
def yX0_votesIfPassing : MethodName := ⟨RX0, "votesIfPassing", "(III)I"⟩
abbrev cX0_enact : ByteArray := prog_2_method_34_code
def yX0_enact : MethodName := ⟨RX0, "enact", "(IIII)I"⟩
abbrev cX0_endLaw : ByteArray := prog_2_method_35_code
def yX0_endLaw : MethodName := ⟨RX0, "endLaw", "(II)V"⟩
def RX1 : String := "RepealedLaws$History"
def TX1 : u_T := fun k => match k with
  | 0 => ("RepealedLaws$History", "states", "[LRepealedLaws$Code;", true)
  | 1 => ("RepealedLaws$History", "oldest", "I", false)
  | _ => ("RepealedLaws$History", "kept", "I", false)
def tyX1 : Nat → FieldType := fun k => match k with
  | 0 => .array (.object "RepealedLaws$Code")
  | 1 => .int
  | _ => .int
abbrev wsX10 : List Cond := u_ws RX1 TX1 3
theorem nmX1 : ∀ a, a < 3 → ∀ b, b < 3 → a ≠ b → (TX1 a).2.1 ≠ (TX1 b).2.1 := by decide +kernel
theorem tyX1_ok : ∀ k, k < 3 → parseFieldDescriptor (TX1 k).2.2.1 = some (tyX1 k) := by decide +kernel
abbrev cX1_init : ByteArray := prog_3_method_1_code
def yX1_init : MethodName := ⟨RX1, "<init>", "()V"⟩
abbrev cX1_remember : ByteArray := prog_3_method_2_code
def yX1_remember : MethodName := ⟨RX1, "remember", "(LRepealedLaws$Code;)V"⟩
abbrev cX1_takeBack : ByteArray := prog_3_method_3_code
def yX1_takeBack : MethodName := ⟨RX1, "takeBack", "(LRepealedLaws$Code;)V"⟩
abbrev cX1_placeOf : ByteArray := prog_3_method_4_code
def yX1_placeOf : MethodName := ⟨RX1, "placeOf", "(I)I"⟩
def RX2 : String := "RepealedLaws$Pad"
def TX2 : u_T := fun k => match k with
  | 0 => ("RepealedLaws$Pad", "signs", "[C", true)
  | _ => ("RepealedLaws$Pad", "length", "I", false)
def tyX2 : Nat → FieldType := fun k => match k with
  | 0 => .array .char
  | _ => .int
abbrev wsX20 : List Cond := u_ws RX2 TX2 2
theorem nmX2 : ∀ a, a < 2 → ∀ b, b < 2 → a ≠ b → (TX2 a).2.1 ≠ (TX2 b).2.1 := by decide +kernel
theorem tyX2_ok : ∀ k, k < 2 → parseFieldDescriptor (TX2 k).2.2.1 = some (tyX2 k) := by decide +kernel
abbrev cX2_init : ByteArray := prog_4_method_1_code
def yX2_init : MethodName := ⟨RX2, "<init>", "()V"⟩
abbrev cX2_append : ByteArray := prog_4_method_2_code
def yX2_append : MethodName := ⟨RX2, "append", "(C)V"⟩
abbrev cX2_clear : ByteArray := prog_4_method_3_code
def yX2_clear : MethodName := ⟨RX2, "clear", "()V"⟩
abbrev cX2_signAt : ByteArray := prog_4_method_4_code
def yX2_signAt : MethodName := ⟨RX2, "signAt", "(I)C"⟩
abbrev cX2_lengthAt : ByteArray := prog_4_method_5_code
def yX2_lengthAt : MethodName := ⟨RX2, "lengthAt", "(I)I"⟩
abbrev cX2_topicAt : ByteArray := prog_4_method_6_code
def yX2_topicAt : MethodName := ⟨RX2, "topicAt", "(I)I"⟩
abbrev cX2_stanceAt : ByteArray := prog_4_method_7_code
def yX2_stanceAt : MethodName := ⟨RX2, "stanceAt", "(I)I"⟩
abbrev cX2_endsSessionAt : ByteArray := prog_4_method_8_code
def yX2_endsSessionAt : MethodName := ⟨RX2, "endsSessionAt", "(I)Z"⟩
abbrev cX2_fits : ByteArray := prog_4_method_9_code
def yX2_fits : MethodName := ⟨RX2, "fits", "(II)Z"⟩
abbrev cX2_firstFault : ByteArray := prog_4_method_10_code
def yX2_firstFault : MethodName := ⟨RX2, "firstFault", "()I"⟩
def RX3 : String := "RepealedLaws"
def TX3 : u_T := fun k => match k with
  | 0 => ("RepealedLaws", "code", "LRepealedLaws$Code;", true)
  | 1 => ("RepealedLaws", "pad", "LRepealedLaws$Pad;", true)
  | 2 => ("RepealedLaws", "history", "LRepealedLaws$History;", true)
  | 3 => ("RepealedLaws", "slots", "[LRepealedLaws$Code;", true)
  | _ => ("RepealedLaws", "filled", "[Z", true)
def tyX3 : Nat → FieldType := fun k => match k with
  | 0 => .object "RepealedLaws$Code"
  | 1 => .object "RepealedLaws$Pad"
  | 2 => .object "RepealedLaws$History"
  | 3 => .array (.object "RepealedLaws$Code")
  | _ => .array .boolean
abbrev wsX30 : List Cond := u_ws RX3 TX3 5
theorem nmX3 : ∀ a, a < 5 → ∀ b, b < 5 → a ≠ b → (TX3 a).2.1 ≠ (TX3 b).2.1 := by decide +kernel
theorem tyX3_ok : ∀ k, k < 5 → parseFieldDescriptor (TX3 k).2.2.1 = some (tyX3 k) := by decide +kernel
abbrev cX3_init : ByteArray := prog_1_method_1_code
def yX3_init : MethodName := ⟨RX3, "<init>", "()V"⟩
abbrev cX3_set : ByteArray := prog_1_method_2_code
def yX3_set : MethodName := ⟨RX3, "set", "(II)I"⟩
abbrev cX3_wish : ByteArray := prog_1_method_3_code
def yX3_wish : MethodName := ⟨RX3, "wish", "(III)I"⟩
abbrev cX3_propose : ByteArray := prog_1_method_4_code
def yX3_propose : MethodName := ⟨RX3, "propose", "(IIII)I"⟩
abbrev cX3_repeal : ByteArray := prog_1_method_5_code
def yX3_repeal : MethodName := ⟨RX3, "repeal", "(I)I"⟩
abbrev cX3_endSession : ByteArray := prog_1_method_6_code
def yX3_endSession : MethodName := ⟨RX3, "endSession", "()I"⟩
abbrev cX3_read : ByteArray := prog_1_method_7_code
def yX3_read : MethodName := ⟨RX3, "read", "()I"⟩
abbrev cX3_law : ByteArray := prog_1_method_8_code
def yX3_law : MethodName := ⟨RX3, "law", "(II)I"⟩
abbrev cX3_topic : ByteArray := prog_1_method_9_code
def yX3_topic : MethodName := ⟨RX3, "topic", "(II)I"⟩
abbrev cX3_councillor : ByteArray := prog_1_method_10_code
def yX3_councillor : MethodName := ⟨RX3, "councillor", "(II)I"⟩
abbrev cX3_count : ByteArray := prog_1_method_11_code
def yX3_count : MethodName := ⟨RX3, "count", "(I)I"⟩
abbrev cX3_why : ByteArray := prog_1_method_12_code
def yX3_why : MethodName := ⟨RX3, "why", "(IIII)I"⟩
abbrev cX3_votes : ByteArray := prog_1_method_13_code
def yX3_votes : MethodName := ⟨RX3, "votes", "(IIII)I"⟩
abbrev cX3_bestRepeal : ByteArray := prog_1_method_14_code
def yX3_bestRepeal : MethodName := ⟨RX3, "bestRepeal", "(III)I"⟩
abbrev cX3_longestBill : ByteArray := prog_1_method_15_code
def yX3_longestBill : MethodName := ⟨RX3, "longestBill", "(II)I"⟩
abbrev cX3_bestBill : ByteArray := prog_1_method_16_code
def yX3_bestBill : MethodName := ⟨RX3, "bestBill", "()I"⟩
abbrev cX3_put : ByteArray := prog_1_method_17_code
def yX3_put : MethodName := ⟨RX3, "put", "(J)I"⟩
abbrev cX3_wipe : ByteArray := prog_1_method_18_code
def yX3_wipe : MethodName := ⟨RX3, "wipe", "()I"⟩
abbrev cX3_fault : ByteArray := prog_1_method_19_code
def yX3_fault : MethodName := ⟨RX3, "fault", "()I"⟩
abbrev cX3_undo : ByteArray := prog_1_method_20_code
def yX3_undo : MethodName := ⟨RX3, "undo", "()I"⟩
abbrev cX3_save : ByteArray := prog_1_method_21_code
def yX3_save : MethodName := ⟨RX3, "save", "(I)I"⟩
abbrev cX3_restore : ByteArray := prog_1_method_22_code
def yX3_restore : MethodName := ⟨RX3, "restore", "(I)I"⟩
abbrev cX3_isCouncillor : ByteArray := prog_1_method_23_code
def yX3_isCouncillor : MethodName := ⟨RX3, "isCouncillor", "(I)Z"⟩
abbrev cX3_isTopic : ByteArray := prog_1_method_24_code
def yX3_isTopic : MethodName := ⟨RX3, "isTopic", "(I)Z"⟩
abbrev cX3_isStance : ByteArray := prog_1_method_25_code
def yX3_isStance : MethodName := ⟨RX3, "isStance", "(I)Z"⟩
abbrev cX3_isLength : ByteArray := prog_1_method_26_code
def yX3_isLength : MethodName := ⟨RX3, "isLength", "(I)Z"⟩
abbrev cX3_isSlot : ByteArray := prog_1_method_27_code
def yX3_isSlot : MethodName := ⟨RX3, "isSlot", "(I)Z"⟩
abbrev cX3_errorOfBill : ByteArray := prog_1_method_28_code
def yX3_errorOfBill : MethodName := ⟨RX3, "errorOfBill", "(IIII)I"⟩
abbrev cX3_voteOn : ByteArray := prog_1_method_29_code
def yX3_voteOn : MethodName := ⟨RX3, "voteOn", "(III)Z"⟩
abbrev cX3_signsIn : ByteArray := prog_1_method_30_code
def yX3_signsIn : MethodName := ⟨RX3, "signsIn", "(J)I"⟩
def RX4 : String := "RepealedLawsModel"
def TX4 : u_T := fun k => match k with
  | 0 => ("RepealedLawsModel", "all", "[I", true)
  | 1 => ("RepealedLawsModel", "history", "[I", true)
  | 2 => ("RepealedLawsModel", "historyLong", "I", false)
  | 3 => ("RepealedLawsModel", "slots", "[I", true)
  | 4 => ("RepealedLawsModel", "isSaved", "[I", true)
  | 5 => ("RepealedLawsModel", "text", "[I", true)
  | 6 => ("RepealedLawsModel", "textLong", "I", false)
  | 7 => ("RepealedLawsModel", "spot", "I", false)
  | 8 => ("RepealedLawsModel", "bills", "[I", true)
  | _ => ("RepealedLawsModel", "read", "I", false)
def tyX4 : Nat → FieldType := fun k => match k with
  | 0 => .array .int
  | 1 => .array .int
  | 2 => .int
  | 3 => .array .int
  | 4 => .array .int
  | 5 => .array .int
  | 6 => .int
  | 7 => .int
  | 8 => .array .int
  | _ => .int
abbrev wsX40 : List Cond := u_ws RX4 TX4 10
theorem nmX4 : ∀ a, a < 10 → ∀ b, b < 10 → a ≠ b → (TX4 a).2.1 ≠ (TX4 b).2.1 := by decide +kernel
theorem tyX4_ok : ∀ k, k < 10 → parseFieldDescriptor (TX4 k).2.2.1 = some (tyX4 k) := by decide +kernel
abbrev cX4_init : ByteArray := prog_6_method_1_code
def yX4_init : MethodName := ⟨RX4, "<init>", "()V"⟩
abbrev cX4_in : ByteArray := prog_6_method_3_code
def yX4_in : MethodName := ⟨RX4, "in", "(JJJ)Z"⟩
abbrev cX4_changes : ByteArray := prog_6_method_4_code
def yX4_changes : MethodName := ⟨RX4, "changes", "()V"⟩
abbrev cX4_isTopic : ByteArray := prog_6_method_5_code
def yX4_isTopic : MethodName := ⟨RX4, "isTopic", "(I)Z"⟩
abbrev cX4_isStance : ByteArray := prog_6_method_6_code
def yX4_isStance : MethodName := ⟨RX4, "isStance", "(I)Z"⟩
abbrev cX4_isLaw : ByteArray := prog_6_method_7_code
def yX4_isLaw : MethodName := ⟨RX4, "isLaw", "(I)Z"⟩
abbrev cX4_get : ByteArray := prog_6_method_8_code
def yX4_get : MethodName := ⟨RX4, "get", "(II)I"⟩
abbrev cX4_lays : ByteArray := prog_6_method_9_code
def yX4_lays : MethodName := ⟨RX4, "lays", "(III)V"⟩
abbrev cX4_isInForce : ByteArray := prog_6_method_10_code
def yX4_isInForce : MethodName := ⟨RX4, "isInForce", "(I)Z"⟩
abbrev cX4_isLike : ByteArray := prog_6_method_11_code
def yX4_isLike : MethodName := ⟨RX4, "isLike", "(IIII)Z"⟩
abbrev cX4_contradict : ByteArray := prog_6_method_12_code
def yX4_contradict : MethodName := ⟨RX4, "contradict", "(II)Z"⟩
abbrev cX4_against : ByteArray := prog_6_method_13_code
def yX4_against : MethodName := ⟨RX4, "against", "(I)I"⟩
abbrev cX4_inForce : ByteArray := prog_6_method_14_code
def yX4_inForce : MethodName := ⟨RX4, "inForce", "(I)I"⟩
abbrev cX4_holder : ByteArray := prog_6_method_15_code
def yX4_holder : MethodName := ⟨RX4, "holder", "(I)I"⟩
abbrev cX4_holds : ByteArray := prog_6_method_16_code
def yX4_holds : MethodName := ⟨RX4, "holds", "(I)I"⟩
abbrev cX4_pairs : ByteArray := prog_6_method_17_code
def yX4_pairs : MethodName := ⟨RX4, "pairs", "(I)I"⟩
abbrev cX4_wishAt : ByteArray := prog_6_method_18_code
def yX4_wishAt : MethodName := ⟨RX4, "wishAt", "(II)I"⟩
abbrev cX4_joy : ByteArray := prog_6_method_19_code
def yX4_joy : MethodName := ⟨RX4, "joy", "(III)I"⟩
abbrev cX4_voters : ByteArray := prog_6_method_20_code
def yX4_voters : MethodName := ⟨RX4, "voters", "(III)I"⟩
abbrev cX4_bits : ByteArray := prog_6_method_21_code
def yX4_bits : MethodName := ⟨RX4, "bits", "(I)I"⟩
abbrev cX4_isThereAlike : ByteArray := prog_6_method_22_code
def yX4_isThereAlike : MethodName := ⟨RX4, "isThereAlike", "(IIII)Z"⟩
abbrev cX4_isRemembered : ByteArray := prog_6_method_23_code
def yX4_isRemembered : MethodName := ⟨RX4, "isRemembered", "(III)Z"⟩
abbrev cX4_isThereAsLong : ByteArray := prog_6_method_24_code
def yX4_isThereAsLong : MethodName := ⟨RX4, "isThereAsLong", "(I)Z"⟩
abbrev cX4_reason : ByteArray := prog_6_method_25_code
def yX4_reason : MethodName := ⟨RX4, "reason", "(IIII)I"⟩
abbrev cX4_best : ByteArray := prog_6_method_26_code
def yX4_best : MethodName := ⟨RX4, "best", "(III)I"⟩
abbrev cX4_passes : ByteArray := prog_6_method_27_code
def yX4_passes : MethodName := ⟨RX4, "passes", "(IIII)I"⟩
abbrev cX4_isSetting : ByteArray := prog_6_method_28_code
def yX4_isSetting : MethodName := ⟨RX4, "isSetting", "(II)Z"⟩
abbrev cX4_set : ByteArray := prog_6_method_29_code
def yX4_set : MethodName := ⟨RX4, "set", "(II)I"⟩
abbrev cX4_isCouncillor : ByteArray := prog_6_method_30_code
def yX4_isCouncillor : MethodName := ⟨RX4, "isCouncillor", "(I)Z"⟩
abbrev cX4_wish : ByteArray := prog_6_method_31_code
def yX4_wish : MethodName := ⟨RX4, "wish", "(III)I"⟩
abbrev cX4_wrong : ByteArray := prog_6_method_32_code
def yX4_wrong : MethodName := ⟨RX4, "wrong", "(IIII)I"⟩
abbrev cX4_propose : ByteArray := prog_6_method_33_code
def yX4_propose : MethodName := ⟨RX4, "propose", "(IIII)I"⟩
abbrev cX4_repeal : ByteArray := prog_6_method_34_code
def yX4_repeal : MethodName := ⟨RX4, "repeal", "(I)I"⟩
abbrev cX4_ends : ByteArray := prog_6_method_35_code
def yX4_ends : MethodName := ⟨RX4, "ends", "()I"⟩
abbrev cX4_endSession : ByteArray := prog_6_method_36_code
def yX4_endSession : MethodName := ⟨RX4, "endSession", "()I"⟩
abbrev cX4_law : ByteArray := prog_6_method_37_code
def yX4_law : MethodName := ⟨RX4, "law", "(II)I"⟩
abbrev cX4_wishers : ByteArray := prog_6_method_38_code
def yX4_wishers : MethodName := ⟨RX4, "wishers", "(I)I"⟩
abbrev cX4_topic : ByteArray := prog_6_method_39_code
def yX4_topic : MethodName := ⟨RX4, "topic", "(II)I"⟩
abbrev cX4_granted : ByteArray := prog_6_method_40_code
def yX4_granted : MethodName := ⟨RX4, "granted", "(I)I"⟩
abbrev cX4_liked : ByteArray := prog_6_method_41_code
def yX4_liked : MethodName := ⟨RX4, "liked", "(I)I"⟩
abbrev cX4_councillor : ByteArray := prog_6_method_42_code
def yX4_councillor : MethodName := ⟨RX4, "councillor", "(II)I"⟩
abbrev cX4_words : ByteArray := prog_6_method_43_code
def yX4_words : MethodName := ⟨RX4, "words", "()I"⟩
abbrev cX4_ruledTopics : ByteArray := prog_6_method_44_code
def yX4_ruledTopics : MethodName := ⟨RX4, "ruledTopics", "()I"⟩
abbrev cX4_count : ByteArray := prog_6_method_45_code
def yX4_count : MethodName := ⟨RX4, "count", "(I)I"⟩
abbrev cX4_why : ByteArray := prog_6_method_46_code
def yX4_why : MethodName := ⟨RX4, "why", "(IIII)I"⟩
abbrev cX4_votes : ByteArray := prog_6_method_47_code
def yX4_votes : MethodName := ⟨RX4, "votes", "(IIII)I"⟩
abbrev cX4_bestRepeal : ByteArray := prog_6_method_48_code
def yX4_bestRepeal : MethodName := ⟨RX4, "bestRepeal", "(III)I"⟩
abbrev cX4_wouldPass : ByteArray := prog_6_method_49_code
def yX4_wouldPass : MethodName := ⟨RX4, "wouldPass", "(III)Z"⟩
abbrev cX4_longestBill : ByteArray := prog_6_method_50_code
def yX4_longestBill : MethodName := ⟨RX4, "longestBill", "(II)I"⟩
abbrev cX4_bestBill : ByteArray := prog_6_method_51_code
def yX4_bestBill : MethodName := ⟨RX4, "bestBill", "()I"⟩
abbrev cX4_charactersOf : ByteArray := prog_6_method_52_code
def yX4_charactersOf : MethodName := ⟨RX4, "charactersOf", "(J)I"⟩
abbrev cX4_put : ByteArray := prog_6_method_53_code
def yX4_put : MethodName := ⟨RX4, "put", "(J)I"⟩
abbrev cX4_wipe : ByteArray := prog_6_method_54_code
def yX4_wipe : MethodName := ⟨RX4, "wipe", "()I"⟩
abbrev cX4_isHere : ByteArray := prog_6_method_55_code
def yX4_isHere : MethodName := ⟨RX4, "isHere", "(II)Z"⟩
abbrev cX4_takesOne : ByteArray := prog_6_method_56_code
def yX4_takesOne : MethodName := ⟨RX4, "takesOne", "(I)Z"⟩
abbrev cX4_readsBill : ByteArray := prog_6_method_57_code
def yX4_readsBill : MethodName := ⟨RX4, "readsBill", "()Z"⟩
abbrev cX4_fault : ByteArray := prog_6_method_58_code
def yX4_fault : MethodName := ⟨RX4, "fault", "()I"⟩
abbrev cX4_read : ByteArray := prog_6_method_59_code
def yX4_read : MethodName := ⟨RX4, "read", "()I"⟩
abbrev cX4_undo : ByteArray := prog_6_method_60_code
def yX4_undo : MethodName := ⟨RX4, "undo", "()I"⟩
abbrev cX4_isSlot : ByteArray := prog_6_method_61_code
def yX4_isSlot : MethodName := ⟨RX4, "isSlot", "(I)Z"⟩
abbrev cX4_save : ByteArray := prog_6_method_62_code
def yX4_save : MethodName := ⟨RX4, "save", "(I)I"⟩
abbrev cX4_restore : ByteArray := prog_6_method_63_code
def yX4_restore : MethodName := ⟨RX4, "restore", "(I)I"⟩
def RJ6 : String := "java/lang/Integer"
def TJ6 : u_T := fun k => match k with
  | _ => ("", "", "", false)
def tyJ6 : Nat → FieldType := fun k => match k with
  | _ => .int
abbrev wsJ60 : List Cond := u_ws RJ6 TJ6 0
theorem nmJ6 : ∀ a, a < 0 → ∀ b, b < 0 → a ≠ b → (TJ6 a).2.1 ≠ (TJ6 b).2.1 := by decide +kernel
theorem tyJ6_ok : ∀ k, k < 0 → parseFieldDescriptor (TJ6 k).2.2.1 = some (tyJ6 k) := by decide +kernel
abbrev cJ6_bitCount_0f7a4 : ByteArray := prog_7_method_49_code
def yJ6_bitCount_0f7a4 : MethodName := ⟨RJ6, "bitCount", "(I)I"⟩
def RJ10 : String := "java/lang/System"
def TJ10 : u_T := fun k => match k with
  | _ => ("", "", "", false)
def tyJ10 : Nat → FieldType := fun k => match k with
  | _ => .int
abbrev wsJ100 : List Cond := u_ws RJ10 TJ10 0
theorem nmJ10 : ∀ a, a < 0 → ∀ b, b < 0 → a ≠ b → (TJ10 a).2.1 ≠ (TJ10 b).2.1 := by decide +kernel
theorem tyJ10_ok : ∀ k, k < 0 → parseFieldDescriptor (TJ10 k).2.2.1 = some (tyJ10 k) := by decide +kernel
def RL : String := "RepealedLawsLaw"
abbrev cL_law : ByteArray := code
def yL_law : MethodName := ⟨RL, "law", "([I)Z"⟩
abbrev vwCl : List vw_C := [(RX0, TX0, 12), (RX1, TX1, 3), (RX2, TX2, 2), (RX3, TX3, 5), (RX4, TX4, 10)]
/-- the tables' words that a callee may be given -/
def zt : List Cond := lw_tbl.filter goodWord
theorem zt_good : ∀ w ∈ zt, goodWord w = true := fun _ h => (List.mem_filter.mp h).2
theorem zt_in : ∀ w ∈ zt, w ∈ lw_tbl := fun _ h => (List.mem_filter.mp h).1
theorem zt_X0 : ∀ w ∈ wsX00, w ∈ zt := by decide +kernel
theorem zt_X1 : ∀ w ∈ wsX10, w ∈ zt := by decide +kernel
theorem zt_X2 : ∀ w ∈ wsX20, w ∈ zt := by decide +kernel
theorem zt_X3 : ∀ w ∈ wsX30, w ∈ zt := by decide +kernel
theorem zt_X4 : ∀ w ∈ wsX40, w ∈ zt := by decide +kernel
end
section
/-! THE Z LOGIC: a method's walk over abstract cells. An abstract cell is named by a number; 'ad' says at which address it lies. -/
abbrev ZC : Type := (Nat × Nat × (Nat → Int32)) ⊕ ((Nat × List Value) ⊕ (Nat × (Nat → Option Nat)))
def zv (ad : Nat → Nat) (v : Value) : Value := match v with
  | .ref i => .ref (ad i)
  | v => v
def zce (cA : Nat → ClassId) (ad : Nat → Nat) (c : ZC) : va_E := match c with
  | .inl x => .inl (cA x.1, x.2.1, .inl x.2.2)
  | .inr (.inl x) => .inr (x.1, x.2.map (zv ad))
  | .inr (.inr x) => .inl (cA 3, x.1, .inr (.inr (.inr (.inr (fun j => (x.2 j).map ad)))))
def zW (cA : Nat → ClassId) (ad : Nat → Nat) (h : List ZC) : va_W := h.mapIdx (fun i c => (ad i, zce cA ad c))
def zT (cA : Nat → ClassId) : List (ClassId × FieldType) := [(cA 0, .int), (cA 1, .char), (cA 2, .boolean), (cA 3, .object RX0)]
theorem zW_get {cA : Nat → ClassId} {ad : Nat → Nat} {h : List ZC} {i : Nat} {c : ZC} (hi : h[i]? = some c) : (zW cA ad h)[i]? = some (ad i, zce cA ad c) := by
  simp [zW, hi]
theorem zW_inv {cA : Nat → ClassId} {ad : Nat → Nat} {h : List ZC} {i : Nat} {q : Nat × va_E} (hi : (zW cA ad h)[i]? = some q) : ∃ c, h[i]? = some c ∧ q = (ad i, zce cA ad c) := by
  simp only [zW, List.getElem?_mapIdx, Option.map_eq_some_iff] at hi
  obtain ⟨c, h1, h2⟩ := hi
  exact ⟨c, h1, h2.symm⟩
theorem zW_set {cA : Nat → ClassId} {ad : Nat → Nat} {h : List ZC} {i : Nat} (c : ZC) : (zW cA ad h).set i (ad i, zce cA ad c) = zW cA ad (h.set i c) := by
  apply List.ext_getElem?
  intro j
  simp only [zW, List.getElem?_set, List.getElem?_mapIdx, List.length_mapIdx]
  by_cases hj : i = j
  · subst hj
    by_cases hl : i < h.length <;> simp [hl]
  · simp [hj]
def zg {α : Type} : List α → Nat → Option α
  | [], _ => none
  | a :: _, 0 => some a
  | _ :: l, n + 1 => zg l n
theorem zg_eq {α : Type} : ∀ (l : List α) (n : Nat), zg l n = l[n]?
  | [], n => by simp [zg]
  | a :: l, 0 => by simp [zg]
  | a :: l, n + 1 => by simp [zg, zg_eq l n]
/-! locals -/
def zHas (ad : Nat → Nat) (la : Array Slot) (ls : List (Option Value)) : Prop := la.size = ls.length ∧ lv_wf la ∧ ∀ (i : Nat) (v : Value), ls[i]? = some (some v) → la[i]? = some (.val (zv ad v))
def zLs (ad : Nat → Nat) (ls : List (Option Value)) : List (Nat × Value) := ls.zipIdx.filterMap (fun q => q.1.map (fun v => (q.2, zv ad v)))
theorem zLs_mem {ad : Nat → Nat} {ls : List (Option Value)} {q : Nat × Value} : q ∈ zLs ad ls ↔ ∃ v, ls[q.1]? = some (some v) ∧ q.2 = zv ad v := by
  unfold zLs
  rw [List.mem_filterMap]
  constructor
  · rintro ⟨⟨o, i⟩, h1, h2⟩
    rw [List.mem_zipIdx_iff_getElem?] at h1
    cases o with
    | none => simp at h2
    | some v =>
      simp only [Option.map_some, Option.some.injEq] at h2
      subst h2
      exact ⟨v, h1, rfl⟩
  · rintro ⟨v, h1, h2⟩
    refine ⟨(some v, q.1), by rw [List.mem_zipIdx_iff_getElem?]; exact h1, ?_⟩
    simp only [Option.map_some, Option.some.injEq]
    rw [← h2]
theorem zHas_lv {ad : Nat → Nat} {la : Array Slot} {ls : List (Option Value)} (h : zHas ad la ls) : lv_has la ls.length (zLs ad ls) := by
  refine ⟨h.1, h.2.1, fun q hq => ?_⟩
  obtain ⟨v, h1, h2⟩ := zLs_mem.mp hq
  rw [h2]
  exact h.2.2 q.1 v h1
def zkl (ls : List (Option Value)) (i : Nat) : List (Option Value) := match i with
  | 0 => ls
  | j + 1 => match zg ls j with
    | some (some (.long _)) => ls.set j none
    | some (some (.double _)) => ls.set j none
    | _ => ls
def zst (ls : List (Option Value)) (i : Nat) (v : Value) : List (Option Value) := (zkl ls i).set i (some v)
def zst2 (ls : List (Option Value)) (i : Nat) (v : Value) : List (Option Value) := ((zkl ls i).set i (some v)).set (i + 1) none
theorem zkl_len (ls : List (Option Value)) (i : Nat) : (zkl ls i).length = ls.length := by
  cases i with
  | zero => rfl
  | succ j =>
    simp only [zkl]
    split <;> simp
theorem zst_len (ls : List (Option Value)) (i : Nat) (v : Value) : (zst ls i v).length = ls.length := by simp [zst, zkl_len]
theorem zst2_len (ls : List (Option Value)) (i : Nat) (v : Value) : (zst2 ls i v).length = ls.length := by simp [zst2, zkl_len]
theorem zkl_get {ls : List (Option Value)} {i j : Nat} {v : Value} (h : (zkl ls i)[j]? = some (some v)) : ls[j]? = some (some v) ∧ ¬ (j + 1 = i ∧ v.category = 2) := by
  cases i with
  | zero => exact ⟨h, fun q => by omega⟩
  | succ k =>
    simp only [zkl, zg_eq] at h
    split at h
    · rename_i x hx
      by_cases e : k = j
      · subst e
        rw [List.getElem?_set_self (List.getElem?_eq_some_iff.mp hx).1] at h
        simp at h
      · rw [List.getElem?_set_ne e] at h
        exact ⟨h, fun q => e (by omega)⟩
    · rename_i x hx
      by_cases e : k = j
      · subst e
        rw [List.getElem?_set_self (List.getElem?_eq_some_iff.mp hx).1] at h
        simp at h
      · rw [List.getElem?_set_ne e] at h
        exact ⟨h, fun q => e (by omega)⟩
    · rename_i h1 h2
      refine ⟨h, fun q => ?_⟩
      have e : j = k := by omega
      subst e
      cases v with
      | long x => exact h1 _ h
      | double x => exact h2 _ h
      | _ => simp [Value.category] at q
theorem zHas_st {ad : Nat → Nat} {la : Array Slot} {ls : List (Option Value)} {i : Nat} {v : Value}
    (h : lv_has la ls.length ((i, zv ad v) :: (zLs ad ls).filter (fun q => !(q.1 == i) && !(q.1 + 1 == i && q.2.category == 2)))) : zHas ad la (zst ls i v) := by
  refine ⟨by rw [zst_len]; exact h.1, h.2.1, fun j w hj => ?_⟩
  unfold zst at hj
  by_cases e : i = j
  · subst e
    by_cases hl : i < (zkl ls i).length
    · rw [List.getElem?_set_self hl] at hj
      cases hj
      exact h.2.2 (i, zv ad v) List.mem_cons_self
    · rw [List.getElem?_eq_none (by simp; omega)] at hj
      cases hj
  · rw [List.getElem?_set_ne e] at hj
    obtain ⟨h1, h2⟩ := zkl_get hj
    refine h.2.2 (j, zv ad w) (List.mem_cons_of_mem _ (List.mem_filter.mpr ⟨zLs_mem.mpr ⟨w, h1, rfl⟩, ?_⟩))
    have hc : (zv ad w).category = w.category := by cases w <;> rfl
    simp only [Bool.and_eq_true, Bool.not_eq_true', beq_eq_false_iff_ne, ne_eq, Bool.and_eq_false_iff]
    refine ⟨fun q => e q.symm, ?_⟩
    by_cases hh : j + 1 = i
    · right
      rw [hc]
      exact fun q => h2 ⟨hh, q⟩
    · left
      exact hh
theorem zHas_st2 {ad : Nat → Nat} {la : Array Slot} {ls : List (Option Value)} {i : Nat} {v : Value}
    (h : lv_has la ls.length ((i, zv ad v) :: (zLs ad ls).filter (fun q => !(q.1 == i) && (!(q.1 == i + 1) && !(q.1 + 1 == i && q.2.category == 2))))) : zHas ad la (zst2 ls i v) := by
  refine ⟨by rw [zst2_len]; exact h.1, h.2.1, fun j w hj => ?_⟩
  unfold zst2 at hj
  by_cases e2 : i + 1 = j
  · subst e2
    by_cases hl : i + 1 < ((zkl ls i).set i (some v)).length
    · rw [List.getElem?_set_self hl] at hj
      cases hj
    · rw [List.getElem?_eq_none (by simp at hl ⊢; omega)] at hj
      cases hj
  · rw [List.getElem?_set_ne e2] at hj
    by_cases e : i = j
    · subst e
      by_cases hl : i < (zkl ls i).length
      · rw [List.getElem?_set_self hl] at hj
        cases hj
        exact h.2.2 (i, zv ad v) List.mem_cons_self
      · rw [List.getElem?_eq_none (by simp; omega)] at hj
        cases hj
    · rw [List.getElem?_set_ne e] at hj
      obtain ⟨h1, h2⟩ := zkl_get hj
      refine h.2.2 (j, zv ad w) (List.mem_cons_of_mem _ (List.mem_filter.mpr ⟨zLs_mem.mpr ⟨w, h1, rfl⟩, ?_⟩))
      have hc : (zv ad w).category = w.category := by cases w <;> rfl
      simp only [Bool.and_eq_true, Bool.not_eq_true', beq_eq_false_iff_ne, ne_eq, Bool.and_eq_false_iff]
      refine ⟨fun q => e q.symm, fun q => e2 q.symm, ?_⟩
      by_cases hh : j + 1 = i
      · right
        rw [hc]
        exact fun q => h2 ⟨hh, q⟩
      · left
        exact hh
def zmk : List Bool → List (Option Value) → List (Option Value)
  | b :: bs, v :: vs => (match b with | true => v | false => none) :: zmk bs vs
  | _, vs => vs
theorem zmk_len : ∀ (bs : List Bool) (ls : List (Option Value)), (zmk bs ls).length = ls.length
  | [], ls => by cases ls <;> rfl
  | b :: bs, [] => rfl
  | b :: bs, v :: vs => by simp [zmk, zmk_len bs vs]
theorem zmk_get : ∀ (bs : List Bool) (ls : List (Option Value)) (i : Nat) (v : Value), (zmk bs ls)[i]? = some (some v) → ls[i]? = some (some v)
  | [], ls, i, v, h => by cases ls <;> exact h
  | b :: bs, [], i, v, h => h
  | b :: bs, w :: vs, 0, v, h => by
    cases b with
    | true => simpa [zmk] using h
    | false => simp [zmk] at h
  | b :: bs, w :: vs, i + 1, v, h => by
    simp only [zmk, List.getElem?_cons_succ] at h ⊢
    exact zmk_get bs vs i v h
theorem zHas_mk {ad : Nat → Nat} {la : Array Slot} {ls : List (Option Value)} (bs : List Bool) (h : zHas ad la ls) : zHas ad la (zmk bs ls) :=
  ⟨by rw [zmk_len]; exact h.1, h.2.1, fun i v hi => h.2.2 i v (zmk_get bs ls i v hi)⟩
/-- a method's first locals -/
def zargl : List Value → List (Option Value)
  | [] => []
  | .long x :: vs => some (.long x) :: none :: zargl vs
  | .double x :: vs => some (.double x) :: none :: zargl vs
  | v :: vs => some v :: zargl vs
def zarg (nL : Nat) (vs : List Value) : List (Option Value) := zargl vs ++ List.replicate (nL - (zargl vs).length) none
theorem zargl_get {ad : Nat → Nat} : ∀ (vs : List Value) (k i : Nat) (v : Value), (zargl vs)[i]? = some (some v) → (k + i, zv ad v) ∈ lv_args k (vs.map (zv ad))
  | [], k, i, v, h => by simp [zargl] at h
  | w :: vs, k, i, v, h => by
    have hc : (zv ad w).category = w.category := by cases w <;> rfl
    have two : ∀ (_ : w.category = 2) (_ : zargl (w :: vs) = some w :: none :: zargl vs), (k + i, zv ad v) ∈ lv_args k ((w :: vs).map (zv ad)) := by
      intro h2 he
      rw [he] at h
      simp only [List.map_cons, lv_args, hc, h2, if_true]
      match i, h with
      | 0, h => simp at h; subst h; exact List.mem_cons_self
      | 1, h => simp at h
      | i + 2, h =>
        simp only [List.getElem?_cons_succ] at h
        have := zargl_get (ad := ad) vs (k + 2) i v h
        rw [show k + (i + 2) = k + 2 + i by omega]
        exact List.mem_cons_of_mem _ this
    have one : ∀ (_ : ¬ w.category = 2) (_ : zargl (w :: vs) = some w :: zargl vs), (k + i, zv ad v) ∈ lv_args k ((w :: vs).map (zv ad)) := by
      intro h2 he
      rw [he] at h
      simp only [List.map_cons, lv_args, hc, h2, if_false]
      match i, h with
      | 0, h => simp at h; subst h; exact List.mem_cons_self
      | i + 1, h =>
        simp only [List.getElem?_cons_succ] at h
        have := zargl_get (ad := ad) vs (k + 1) i v h
        rw [show k + (i + 1) = k + 1 + i by omega]
        exact List.mem_cons_of_mem _ this
    cases w with
    | long x => exact two rfl rfl
    | double x => exact two rfl rfl
    | int x => exact one (by simp [Value.category]) rfl
    | float x => exact one (by simp [Value.category]) rfl
    | null => exact one (by simp [Value.category]) rfl
    | ref x => exact one (by simp [Value.category]) rfl
    | retAddr x => exact one (by simp [Value.category]) rfl
theorem zsl_cons (v : Value) (vs : List Value) : lg_sl (v :: vs) = (if v.category = 2 then [.val v, .second] else [.val v]) ++ lg_sl vs := rfl
theorem zargl_len (ad : Nat → Nat) : ∀ vs : List Value, (lg_sl (vs.map (zv ad))).length = (zargl vs).length
  | [] => rfl
  | w :: vs => by
    have ih := zargl_len ad vs
    rw [List.map_cons, zsl_cons, List.length_append, ih]
    cases w <;> simp [zargl, zv, Value.category] <;> omega
theorem zHas_arg {ad : Nat → Nat} {vs : List Value} {nL : Nat} (h : (zargl vs).length ≤ nL) :
    zHas ad ((lg_sl (vs.map (zv ad)) ++ List.replicate (nL - (lg_sl (vs.map (zv ad))).length) Slot.unset).toArray) (zarg nL vs) := by
  have e := lv_entry (vs.map (zv ad)) (n := nL) (by rw [zargl_len]; exact h)
  refine ⟨by rw [e.1]; simp [zarg]; omega, e.2.1, fun i v hi => ?_⟩
  unfold zarg at hi
  by_cases hl : i < (zargl vs).length
  · rw [List.getElem?_append_left hl] at hi
    have := e.2.2 _ (zargl_get (ad := ad) vs 0 i v hi)
    simpa using this
  · rw [List.getElem?_append_right (by omega), List.getElem?_replicate] at hi
    split at hi <;> simp at hi
end
