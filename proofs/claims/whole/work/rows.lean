section
-- ===== PART A: goes FIRST, ahead of the names: the tables' words, and 'selects' of the private methods out of them =====
/-- a private method of a class that the tables say can be made, by its rows of tables_1 -/
def lw_okq (q : MethodName × Nat) : Prop := (q.1.cls ≠ "java/lang/invoke/MethodHandle" ∧ q.1.cls ≠ "java/lang/invoke/VarHandle") ∧ Cond.instantiable q.1.cls q.2 ∈ tables_1 ∧ Cond.privateMethod q.1 ∈ tables_1 ∧ Cond.instanceMethod q.1 ∈ tables_1
theorem lw_p0 : lw_okq (⟨"RepealedLaws", "errorOfBill", "(IIII)I"⟩, 5) := ⟨⟨by decide +kernel, by decide +kernel⟩, List.mem_of_getElem? (i := 9) (by decide +kernel), List.mem_of_getElem? (i := 176) (by decide +kernel), List.mem_of_getElem? (i := 177) (by decide +kernel)⟩
theorem lw_p1 : lw_okq (⟨"RepealedLaws", "voteOn", "(III)Z"⟩, 5) := ⟨⟨by decide +kernel, by decide +kernel⟩, List.mem_of_getElem? (i := 9) (by decide +kernel), List.mem_of_getElem? (i := 296) (by decide +kernel), List.mem_of_getElem? (i := 297) (by decide +kernel)⟩
theorem lw_p2 : lw_okq (⟨"RepealedLawsModel", "changes", "()V"⟩, 10) := ⟨⟨by decide +kernel, by decide +kernel⟩, List.mem_of_getElem? (i := 455) (by decide +kernel), List.mem_of_getElem? (i := 505) (by decide +kernel), List.mem_of_getElem? (i := 506) (by decide +kernel)⟩
theorem lw_p3 : lw_okq (⟨"RepealedLawsModel", "wrong", "(IIII)I"⟩, 10) := ⟨⟨by decide +kernel, by decide +kernel⟩, List.mem_of_getElem? (i := 455) (by decide +kernel), List.mem_of_getElem? (i := 532) (by decide +kernel), List.mem_of_getElem? (i := 533) (by decide +kernel)⟩
theorem lw_p4 : lw_okq (⟨"RepealedLawsModel", "isLaw", "(I)Z"⟩, 10) := ⟨⟨by decide +kernel, by decide +kernel⟩, List.mem_of_getElem? (i := 455) (by decide +kernel), List.mem_of_getElem? (i := 536) (by decide +kernel), List.mem_of_getElem? (i := 537) (by decide +kernel)⟩
theorem lw_p5 : lw_okq (⟨"RepealedLawsModel", "reason", "(IIII)I"⟩, 10) := ⟨⟨by decide +kernel, by decide +kernel⟩, List.mem_of_getElem? (i := 455) (by decide +kernel), List.mem_of_getElem? (i := 544) (by decide +kernel), List.mem_of_getElem? (i := 545) (by decide +kernel)⟩
theorem lw_p6 : lw_okq (⟨"RepealedLawsModel", "isThereAlike", "(IIII)Z"⟩, 10) := ⟨⟨by decide +kernel, by decide +kernel⟩, List.mem_of_getElem? (i := 455) (by decide +kernel), List.mem_of_getElem? (i := 548) (by decide +kernel), List.mem_of_getElem? (i := 549) (by decide +kernel)⟩
theorem lw_p7 : lw_okq (⟨"RepealedLawsModel", "isInForce", "(I)Z"⟩, 10) := ⟨⟨by decide +kernel, by decide +kernel⟩, List.mem_of_getElem? (i := 455) (by decide +kernel), List.mem_of_getElem? (i := 552) (by decide +kernel), List.mem_of_getElem? (i := 553) (by decide +kernel)⟩
theorem lw_p8 : lw_okq (⟨"RepealedLawsModel", "get", "(II)I"⟩, 10) := ⟨⟨by decide +kernel, by decide +kernel⟩, List.mem_of_getElem? (i := 455) (by decide +kernel), List.mem_of_getElem? (i := 556) (by decide +kernel), List.mem_of_getElem? (i := 557) (by decide +kernel)⟩
theorem lw_p9 : lw_okq (⟨"RepealedLawsModel", "isLike", "(IIII)Z"⟩, 10) := ⟨⟨by decide +kernel, by decide +kernel⟩, List.mem_of_getElem? (i := 455) (by decide +kernel), List.mem_of_getElem? (i := 560) (by decide +kernel), List.mem_of_getElem? (i := 561) (by decide +kernel)⟩
theorem lw_p10 : lw_okq (⟨"RepealedLawsModel", "isRemembered", "(III)Z"⟩, 10) := ⟨⟨by decide +kernel, by decide +kernel⟩, List.mem_of_getElem? (i := 455) (by decide +kernel), List.mem_of_getElem? (i := 564) (by decide +kernel), List.mem_of_getElem? (i := 565) (by decide +kernel)⟩
theorem lw_p11 : lw_okq (⟨"RepealedLawsModel", "isThereAsLong", "(I)Z"⟩, 10) := ⟨⟨by decide +kernel, by decide +kernel⟩, List.mem_of_getElem? (i := 455) (by decide +kernel), List.mem_of_getElem? (i := 568) (by decide +kernel), List.mem_of_getElem? (i := 569) (by decide +kernel)⟩
theorem lw_p12 : lw_okq (⟨"RepealedLawsModel", "inForce", "(I)I"⟩, 10) := ⟨⟨by decide +kernel, by decide +kernel⟩, List.mem_of_getElem? (i := 455) (by decide +kernel), List.mem_of_getElem? (i := 572) (by decide +kernel), List.mem_of_getElem? (i := 573) (by decide +kernel)⟩
theorem lw_p13 : lw_okq (⟨"RepealedLawsModel", "voters", "(III)I"⟩, 10) := ⟨⟨by decide +kernel, by decide +kernel⟩, List.mem_of_getElem? (i := 455) (by decide +kernel), List.mem_of_getElem? (i := 576) (by decide +kernel), List.mem_of_getElem? (i := 577) (by decide +kernel)⟩
theorem lw_p14 : lw_okq (⟨"RepealedLawsModel", "joy", "(III)I"⟩, 10) := ⟨⟨by decide +kernel, by decide +kernel⟩, List.mem_of_getElem? (i := 455) (by decide +kernel), List.mem_of_getElem? (i := 580) (by decide +kernel), List.mem_of_getElem? (i := 581) (by decide +kernel)⟩
theorem lw_p15 : lw_okq (⟨"RepealedLawsModel", "passes", "(IIII)I"⟩, 10) := ⟨⟨by decide +kernel, by decide +kernel⟩, List.mem_of_getElem? (i := 455) (by decide +kernel), List.mem_of_getElem? (i := 587) (by decide +kernel), List.mem_of_getElem? (i := 588) (by decide +kernel)⟩
def lw_privs_1 : List (MethodName × Nat) := [(⟨"RepealedLaws", "errorOfBill", "(IIII)I"⟩, 5), (⟨"RepealedLaws", "voteOn", "(III)Z"⟩, 5), (⟨"RepealedLawsModel", "changes", "()V"⟩, 10), (⟨"RepealedLawsModel", "wrong", "(IIII)I"⟩, 10), (⟨"RepealedLawsModel", "isLaw", "(I)Z"⟩, 10), (⟨"RepealedLawsModel", "reason", "(IIII)I"⟩, 10), (⟨"RepealedLawsModel", "isThereAlike", "(IIII)Z"⟩, 10), (⟨"RepealedLawsModel", "isInForce", "(I)Z"⟩, 10), (⟨"RepealedLawsModel", "get", "(II)I"⟩, 10), (⟨"RepealedLawsModel", "isLike", "(IIII)Z"⟩, 10), (⟨"RepealedLawsModel", "isRemembered", "(III)Z"⟩, 10), (⟨"RepealedLawsModel", "isThereAsLong", "(I)Z"⟩, 10), (⟨"RepealedLawsModel", "inForce", "(I)I"⟩, 10), (⟨"RepealedLawsModel", "voters", "(III)I"⟩, 10), (⟨"RepealedLawsModel", "joy", "(III)I"⟩, 10), (⟨"RepealedLawsModel", "passes", "(IIII)I"⟩, 10)]
theorem lw_r1 : ∀ q ∈ lw_privs_1, lw_okq q := List.forall_mem_cons.mpr ⟨lw_p0, List.forall_mem_cons.mpr ⟨lw_p1, List.forall_mem_cons.mpr ⟨lw_p2, List.forall_mem_cons.mpr ⟨lw_p3, List.forall_mem_cons.mpr ⟨lw_p4, List.forall_mem_cons.mpr ⟨lw_p5, List.forall_mem_cons.mpr ⟨lw_p6, List.forall_mem_cons.mpr ⟨lw_p7, List.forall_mem_cons.mpr ⟨lw_p8, List.forall_mem_cons.mpr ⟨lw_p9, List.forall_mem_cons.mpr ⟨lw_p10, List.forall_mem_cons.mpr ⟨lw_p11, List.forall_mem_cons.mpr ⟨lw_p12, List.forall_mem_cons.mpr ⟨lw_p13, List.forall_mem_cons.mpr ⟨lw_p14, List.forall_mem_cons.mpr ⟨lw_p15, fun _ h => absurd h List.not_mem_nil⟩⟩⟩⟩⟩⟩⟩⟩⟩⟩⟩⟩⟩⟩⟩⟩
theorem lw_p16 : lw_okq (⟨"RepealedLawsModel", "lays", "(III)V"⟩, 10) := ⟨⟨by decide +kernel, by decide +kernel⟩, List.mem_of_getElem? (i := 455) (by decide +kernel), List.mem_of_getElem? (i := 591) (by decide +kernel), List.mem_of_getElem? (i := 592) (by decide +kernel)⟩
theorem lw_p17 : lw_okq (⟨"RepealedLawsModel", "ends", "()I"⟩, 10) := ⟨⟨by decide +kernel, by decide +kernel⟩, List.mem_of_getElem? (i := 455) (by decide +kernel), List.mem_of_getElem? (i := 603) (by decide +kernel), List.mem_of_getElem? (i := 604) (by decide +kernel)⟩
theorem lw_p18 : lw_okq (⟨"RepealedLawsModel", "against", "(I)I"⟩, 10) := ⟨⟨by decide +kernel, by decide +kernel⟩, List.mem_of_getElem? (i := 455) (by decide +kernel), List.mem_of_getElem? (i := 611) (by decide +kernel), List.mem_of_getElem? (i := 612) (by decide +kernel)⟩
theorem lw_p19 : lw_okq (⟨"RepealedLawsModel", "contradict", "(II)Z"⟩, 10) := ⟨⟨by decide +kernel, by decide +kernel⟩, List.mem_of_getElem? (i := 455) (by decide +kernel), List.mem_of_getElem? (i := 615) (by decide +kernel), List.mem_of_getElem? (i := 616) (by decide +kernel)⟩
theorem lw_p20 : lw_okq (⟨"RepealedLawsModel", "holder", "(I)I"⟩, 10) := ⟨⟨by decide +kernel, by decide +kernel⟩, List.mem_of_getElem? (i := 455) (by decide +kernel), List.mem_of_getElem? (i := 619) (by decide +kernel), List.mem_of_getElem? (i := 620) (by decide +kernel)⟩
theorem lw_p21 : lw_okq (⟨"RepealedLawsModel", "holds", "(I)I"⟩, 10) := ⟨⟨by decide +kernel, by decide +kernel⟩, List.mem_of_getElem? (i := 455) (by decide +kernel), List.mem_of_getElem? (i := 628) (by decide +kernel), List.mem_of_getElem? (i := 629) (by decide +kernel)⟩
theorem lw_p22 : lw_okq (⟨"RepealedLawsModel", "pairs", "(I)I"⟩, 10) := ⟨⟨by decide +kernel, by decide +kernel⟩, List.mem_of_getElem? (i := 455) (by decide +kernel), List.mem_of_getElem? (i := 632) (by decide +kernel), List.mem_of_getElem? (i := 633) (by decide +kernel)⟩
theorem lw_p23 : lw_okq (⟨"RepealedLawsModel", "wishers", "(I)I"⟩, 10) := ⟨⟨by decide +kernel, by decide +kernel⟩, List.mem_of_getElem? (i := 455) (by decide +kernel), List.mem_of_getElem? (i := 636) (by decide +kernel), List.mem_of_getElem? (i := 637) (by decide +kernel)⟩
theorem lw_p24 : lw_okq (⟨"RepealedLawsModel", "granted", "(I)I"⟩, 10) := ⟨⟨by decide +kernel, by decide +kernel⟩, List.mem_of_getElem? (i := 455) (by decide +kernel), List.mem_of_getElem? (i := 644) (by decide +kernel), List.mem_of_getElem? (i := 645) (by decide +kernel)⟩
theorem lw_p25 : lw_okq (⟨"RepealedLawsModel", "liked", "(I)I"⟩, 10) := ⟨⟨by decide +kernel, by decide +kernel⟩, List.mem_of_getElem? (i := 455) (by decide +kernel), List.mem_of_getElem? (i := 648) (by decide +kernel), List.mem_of_getElem? (i := 649) (by decide +kernel)⟩
theorem lw_p26 : lw_okq (⟨"RepealedLawsModel", "words", "()I"⟩, 10) := ⟨⟨by decide +kernel, by decide +kernel⟩, List.mem_of_getElem? (i := 455) (by decide +kernel), List.mem_of_getElem? (i := 656) (by decide +kernel), List.mem_of_getElem? (i := 657) (by decide +kernel)⟩
theorem lw_p27 : lw_okq (⟨"RepealedLawsModel", "ruledTopics", "()I"⟩, 10) := ⟨⟨by decide +kernel, by decide +kernel⟩, List.mem_of_getElem? (i := 455) (by decide +kernel), List.mem_of_getElem? (i := 660) (by decide +kernel), List.mem_of_getElem? (i := 661) (by decide +kernel)⟩
theorem lw_p28 : lw_okq (⟨"RepealedLawsModel", "best", "(III)I"⟩, 10) := ⟨⟨by decide +kernel, by decide +kernel⟩, List.mem_of_getElem? (i := 455) (by decide +kernel), List.mem_of_getElem? (i := 673) (by decide +kernel), List.mem_of_getElem? (i := 674) (by decide +kernel)⟩
theorem lw_p29 : lw_okq (⟨"RepealedLawsModel", "wouldPass", "(III)Z"⟩, 10) := ⟨⟨by decide +kernel, by decide +kernel⟩, List.mem_of_getElem? (i := 455) (by decide +kernel), List.mem_of_getElem? (i := 681) (by decide +kernel), List.mem_of_getElem? (i := 682) (by decide +kernel)⟩
theorem lw_p30 : lw_okq (⟨"RepealedLawsModel", "readsBill", "()Z"⟩, 10) := ⟨⟨by decide +kernel, by decide +kernel⟩, List.mem_of_getElem? (i := 455) (by decide +kernel), List.mem_of_getElem? (i := 707) (by decide +kernel), List.mem_of_getElem? (i := 708) (by decide +kernel)⟩
theorem lw_p31 : lw_okq (⟨"RepealedLawsModel", "isHere", "(II)Z"⟩, 10) := ⟨⟨by decide +kernel, by decide +kernel⟩, List.mem_of_getElem? (i := 455) (by decide +kernel), List.mem_of_getElem? (i := 711) (by decide +kernel), List.mem_of_getElem? (i := 712) (by decide +kernel)⟩
def lw_privs_2 : List (MethodName × Nat) := [(⟨"RepealedLawsModel", "lays", "(III)V"⟩, 10), (⟨"RepealedLawsModel", "ends", "()I"⟩, 10), (⟨"RepealedLawsModel", "against", "(I)I"⟩, 10), (⟨"RepealedLawsModel", "contradict", "(II)Z"⟩, 10), (⟨"RepealedLawsModel", "holder", "(I)I"⟩, 10), (⟨"RepealedLawsModel", "holds", "(I)I"⟩, 10), (⟨"RepealedLawsModel", "pairs", "(I)I"⟩, 10), (⟨"RepealedLawsModel", "wishers", "(I)I"⟩, 10), (⟨"RepealedLawsModel", "granted", "(I)I"⟩, 10), (⟨"RepealedLawsModel", "liked", "(I)I"⟩, 10), (⟨"RepealedLawsModel", "words", "()I"⟩, 10), (⟨"RepealedLawsModel", "ruledTopics", "()I"⟩, 10), (⟨"RepealedLawsModel", "best", "(III)I"⟩, 10), (⟨"RepealedLawsModel", "wouldPass", "(III)Z"⟩, 10), (⟨"RepealedLawsModel", "readsBill", "()Z"⟩, 10), (⟨"RepealedLawsModel", "isHere", "(II)Z"⟩, 10)]
theorem lw_r2 : ∀ q ∈ lw_privs_2, lw_okq q := List.forall_mem_cons.mpr ⟨lw_p16, List.forall_mem_cons.mpr ⟨lw_p17, List.forall_mem_cons.mpr ⟨lw_p18, List.forall_mem_cons.mpr ⟨lw_p19, List.forall_mem_cons.mpr ⟨lw_p20, List.forall_mem_cons.mpr ⟨lw_p21, List.forall_mem_cons.mpr ⟨lw_p22, List.forall_mem_cons.mpr ⟨lw_p23, List.forall_mem_cons.mpr ⟨lw_p24, List.forall_mem_cons.mpr ⟨lw_p25, List.forall_mem_cons.mpr ⟨lw_p26, List.forall_mem_cons.mpr ⟨lw_p27, List.forall_mem_cons.mpr ⟨lw_p28, List.forall_mem_cons.mpr ⟨lw_p29, List.forall_mem_cons.mpr ⟨lw_p30, List.forall_mem_cons.mpr ⟨lw_p31, fun _ h => absurd h List.not_mem_nil⟩⟩⟩⟩⟩⟩⟩⟩⟩⟩⟩⟩⟩⟩⟩⟩
theorem lw_p32 : lw_okq (⟨"RepealedLawsModel", "takesOne", "(I)Z"⟩, 10) := ⟨⟨by decide +kernel, by decide +kernel⟩, List.mem_of_getElem? (i := 455) (by decide +kernel), List.mem_of_getElem? (i := 715) (by decide +kernel), List.mem_of_getElem? (i := 716) (by decide +kernel)⟩
def lw_privs_3 : List (MethodName × Nat) := [(⟨"RepealedLawsModel", "takesOne", "(I)Z"⟩, 10)]
theorem lw_r3 : ∀ q ∈ lw_privs_3, lw_okq q := List.forall_mem_cons.mpr ⟨lw_p32, fun _ h => absurd h List.not_mem_nil⟩
def lw_privs : List (MethodName × Nat) := lw_privs_1 ++ (lw_privs_2 ++ (lw_privs_3))
def lw_tbl : List Cond := k2_sels lw_privs ++ tables_1
theorem lw_privs_ok : ∀ q ∈ lw_privs, lw_okq q := by
  show ∀ q ∈ lw_privs_1 ++ (lw_privs_2 ++ (lw_privs_3)), lw_okq q
  exact List.forall_mem_append.mpr ⟨lw_r1, List.forall_mem_append.mpr ⟨lw_r2, lw_r3⟩⟩
end
section
/-! ===== END ===== -/

/-! ===== BEGIN printed: names, fields, word lists, decode rows ===== -/
def RX0 : String := "RepealedLaws$Code"
def TX0 : u_T := fun k => match k with
  | 0 => ("RepealedLaws$Code", "settings", "[I", true)
  | 1 => ("RepealedLaws$Code", "wishes", "[I", true)
  | 2 => ("RepealedLaws$Code", "lengths", "[I", true)
  | 3 => ("RepealedLaws$Code", "topics", "[I", true)
  | 4 => ("RepealedLaws$Code", "stances", "[I", true)
  | 5 => ("RepealedLaws$Code", "madeIn", "[I", true)
  | 6 => ("RepealedLaws$Code", "repealedIn", "[I", true)
  | 7 => ("RepealedLaws$Code", "repealOf", "[I", true)
  | 8 => ("RepealedLaws$Code", "repealedBy", "[I", true)
  | 9 => ("RepealedLaws$Code", "made", "I", false)
  | 10 => ("RepealedLaws$Code", "session", "I", false)
  | _ => ("RepealedLaws$Code", "failures", "I", false)
def tyX0 : Nat → FieldType := fun k => match k with
  | 0 => .array .int
  | 1 => .array .int
  | 2 => .array .int
  | 3 => .array .int
  | 4 => .array .int
  | 5 => .array .int
  | 6 => .array .int
  | 7 => .array .int
  | 8 => .array .int
  | 9 => .int
  | 10 => .int
  | _ => .int
abbrev wsX00 : List Cond := u_ws RX0 TX0 12
theorem nmX0 : ∀ a, a < 12 → ∀ b, b < 12 → a ≠ b → (TX0 a).2.1 ≠ (TX0 b).2.1 := by decide +kernel
theorem tyX0_ok : ∀ k, k < 12 → parseFieldDescriptor (TX0 k).2.2.1 = some (tyX0 k) := by decide +kernel
abbrev cX0_init : ByteArray := prog_2_method_1_code
def yX0_init : MethodName := ⟨RX0, "<init>", "()V"⟩
abbrev cX0_become : ByteArray := prog_2_method_2_code
def yX0_become : MethodName := ⟨RX0, "become", "(LRepealedLaws$Code;)V"⟩
abbrev cX0_wishOf : ByteArray := prog_2_method_3_code
def yX0_wishOf : MethodName := ⟨RX0, "wishOf", "(II)I"⟩
abbrev cX0_changeWish : ByteArray := prog_2_method_4_code
def yX0_changeWish : MethodName := ⟨RX0, "changeWish", "(III)V"⟩
abbrev cX0_isFull : ByteArray := prog_2_method_5_code
def yX0_isFull : MethodName := ⟨RX0, "isFull", "()Z"⟩
abbrev cX0_isLaw : ByteArray := prog_2_method_6_code
def yX0_isLaw : MethodName := ⟨RX0, "isLaw", "(I)Z"⟩
abbrev cX0_inForce : ByteArray := prog_2_method_7_code
def yX0_inForce : MethodName := ⟨RX0, "inForce", "(I)Z"⟩
abbrev cX0_inForceIn : ByteArray := prog_2_method_8_code
def yX0_inForceIn : MethodName := ⟨RX0, "inForceIn", "(II)Z"⟩
abbrev cX0_isLike : ByteArray := prog_2_method_9_code
def yX0_isLike : MethodName := ⟨RX0, "isLike", "(IIII)Z"⟩
abbrev cX0_contradict : ByteArray := prog_2_method_10_code
def yX0_contradict : MethodName := ⟨RX0, "contradict", "(II)Z"⟩
abbrev cX0_lawsInForce : ByteArray := prog_2_method_11_code
def yX0_lawsInForce : MethodName := ⟨RX0, "lawsInForce", "()I"⟩
abbrev cX0_lawsInForceIn : ByteArray := prog_2_method_12_code
def yX0_lawsInForceIn : MethodName := ⟨RX0, "lawsInForceIn", "(I)I"⟩
abbrev cX0_lawsInForceWith : ByteArray := prog_2_method_13_code
def yX0_lawsInForceWith : MethodName := ⟨RX0, "lawsInForceWith", "(II)I"⟩
abbrev cX0_wordsInForce : ByteArray := prog_2_method_14_code
def yX0_wordsInForce : MethodName := ⟨RX0, "wordsInForce", "()I"⟩
abbrev cX0_madeInThisSession : ByteArray := prog_2_method_15_code
def yX0_madeInThisSession : MethodName := ⟨RX0, "madeInThisSession", "()I"⟩
abbrev cX0_holderIn : ByteArray := prog_2_method_16_code
def yX0_holderIn : MethodName := ⟨RX0, "holderIn", "(I)I"⟩
abbrev cX0_stanceHeldIn : ByteArray := prog_2_method_17_code
def yX0_stanceHeldIn : MethodName := ⟨RX0, "stanceHeldIn", "(I)I"⟩
abbrev cX0_topicsWithHolder : ByteArray := prog_2_method_18_code
def yX0_topicsWithHolder : MethodName := ⟨RX0, "topicsWithHolder", "()I"⟩
abbrev cX0_contradictionsOf : ByteArray := prog_2_method_19_code
def yX0_contradictionsOf : MethodName := ⟨RX0, "contradictionsOf", "(I)I"⟩
abbrev cX0_contradictionsIn : ByteArray := prog_2_method_20_code
def yX0_contradictionsIn : MethodName := ⟨RX0, "contradictionsIn", "(I)I"⟩
abbrev cX0_contradictionsByTopics : ByteArray := prog_2_method_21_code
def yX0_contradictionsByTopics : MethodName := ⟨RX0, "contradictionsByTopics", "()I"⟩
abbrev cX0_contradictionsByPairs : ByteArray := prog_2_method_22_code
def yX0_contradictionsByPairs : MethodName := ⟨RX0, "contradictionsByPairs", "()I"⟩
abbrev cX0_councillorsContentIn : ByteArray := prog_2_method_23_code
def yX0_councillorsContentIn : MethodName := ⟨RX0, "councillorsContentIn", "(I)I"⟩
abbrev cX0_topicsAsWishedBy : ByteArray := prog_2_method_24_code
def yX0_topicsAsWishedBy : MethodName := ⟨RX0, "topicsAsWishedBy", "(I)I"⟩
abbrev cX0_lawsAsWishedBy : ByteArray := prog_2_method_25_code
def yX0_lawsAsWishedBy : MethodName := ⟨RX0, "lawsAsWishedBy", "(I)I"⟩
abbrev cX0_joyAt : ByteArray := prog_2_method_26_code
def yX0_joyAt : MethodName := ⟨RX0, "joyAt", "(III)I"⟩
abbrev cX0_votersFor : ByteArray := prog_2_method_27_code
def yX0_votersFor : MethodName := ⟨RX0, "votersFor", "(III)I"⟩
abbrev cX0_isLikeAnotherInForce : ByteArray := prog_2_method_28_code
def yX0_isLikeAnotherInForce : MethodName := ⟨RX0, "isLikeAnotherInForce", "(IIII)Z"⟩
abbrev cX0_wasRepealedLately : ByteArray := prog_2_method_29_code
def yX0_wasRepealedLately : MethodName := ⟨RX0, "wasRepealedLately", "(III)Z"⟩
abbrev cX0_hasInForceOfLength : ByteArray := prog_2_method_30_code
def yX0_hasInForceOfLength : MethodName := ⟨RX0, "hasInForceOfLength", "(I)Z"⟩
abbrev cX0_reasonAgainst : ByteArray := prog_2_method_31_code
def yX0_reasonAgainst : MethodName := ⟨RX0, "reasonAgainst", "(IIII)I"⟩
abbrev cX0_bestRepealFor : ByteArray := prog_2_method_32_code
def yX0_bestRepealFor : MethodName := ⟨RX0, "bestRepealFor", "(III)I"⟩
abbrev cX0_votesIfPassing : ByteArray := prog_2_method_33_code
def yX0_votesIfPassing : MethodName := ⟨RX0, "votesIfPassing", "(III)I"⟩
abbrev cX0_enact : ByteArray := prog_2_method_34_code
def yX0_enact : MethodName := ⟨RX0, "enact", "(IIII)I"⟩
abbrev cX0_endLaw : ByteArray := prog_2_method_35_code
def yX0_endLaw : MethodName := ⟨RX0, "endLaw", "(II)V"⟩
def RX1 : String := "RepealedLaws$History"
def TX1 : u_T := fun k => match k with
  | 0 => ("RepealedLaws$History", "states", "[LRepealedLaws$Code;", true)
  | 1 => ("RepealedLaws$History", "oldest", "I", false)
  | _ => ("RepealedLaws$History", "kept", "I", false)
def tyX1 : Nat → FieldType := fun k => match k with
  | 0 => .array (.object "RepealedLaws$Code")
  | 1 => .int
  | _ => .int
abbrev wsX10 : List Cond := u_ws RX1 TX1 3
theorem nmX1 : ∀ a, a < 3 → ∀ b, b < 3 → a ≠ b → (TX1 a).2.1 ≠ (TX1 b).2.1 := by decide +kernel
theorem tyX1_ok : ∀ k, k < 3 → parseFieldDescriptor (TX1 k).2.2.1 = some (tyX1 k) := by decide +kernel
abbrev cX1_init : ByteArray := prog_3_method_1_code
def yX1_init : MethodName := ⟨RX1, "<init>", "()V"⟩
abbrev cX1_remember : ByteArray := prog_3_method_2_code
def yX1_remember : MethodName := ⟨RX1, "remember", "(LRepealedLaws$Code;)V"⟩
abbrev cX1_takeBack : ByteArray := prog_3_method_3_code
def yX1_takeBack : MethodName := ⟨RX1, "takeBack", "(LRepealedLaws$Code;)V"⟩
abbrev cX1_placeOf : ByteArray := prog_3_method_4_code
def yX1_placeOf : MethodName := ⟨RX1, "placeOf", "(I)I"⟩
def RX2 : String := "RepealedLaws$Pad"
def TX2 : u_T := fun k => match k with
  | 0 => ("RepealedLaws$Pad", "signs", "[C", true)
  | _ => ("RepealedLaws$Pad", "length", "I", false)
def tyX2 : Nat → FieldType := fun k => match k with
  | 0 => .array .char
  | _ => .int
abbrev wsX20 : List Cond := u_ws RX2 TX2 2
theorem nmX2 : ∀ a, a < 2 → ∀ b, b < 2 → a ≠ b → (TX2 a).2.1 ≠ (TX2 b).2.1 := by decide +kernel
theorem tyX2_ok : ∀ k, k < 2 → parseFieldDescriptor (TX2 k).2.2.1 = some (tyX2 k) := by decide +kernel
abbrev cX2_init : ByteArray := prog_4_method_1_code
def yX2_init : MethodName := ⟨RX2, "<init>", "()V"⟩
abbrev cX2_append : ByteArray := prog_4_method_2_code
def yX2_append : MethodName := ⟨RX2, "append", "(C)V"⟩
abbrev cX2_clear : ByteArray := prog_4_method_3_code
def yX2_clear : MethodName := ⟨RX2, "clear", "()V"⟩
abbrev cX2_signAt : ByteArray := prog_4_method_4_code
def yX2_signAt : MethodName := ⟨RX2, "signAt", "(I)C"⟩
abbrev cX2_lengthAt : ByteArray := prog_4_method_5_code
def yX2_lengthAt : MethodName := ⟨RX2, "lengthAt", "(I)I"⟩
abbrev cX2_topicAt : ByteArray := prog_4_method_6_code
def yX2_topicAt : MethodName := ⟨RX2, "topicAt", "(I)I"⟩
abbrev cX2_stanceAt : ByteArray := prog_4_method_7_code
def yX2_stanceAt : MethodName := ⟨RX2, "stanceAt", "(I)I"⟩
abbrev cX2_endsSessionAt : ByteArray := prog_4_method_8_code
def yX2_endsSessionAt : MethodName := ⟨RX2, "endsSessionAt", "(I)Z"⟩
abbrev cX2_fits : ByteArray := prog_4_method_9_code
def yX2_fits : MethodName := ⟨RX2, "fits", "(II)Z"⟩
abbrev cX2_firstFault : ByteArray := prog_4_method_10_code
def yX2_firstFault : MethodName := ⟨RX2, "firstFault", "()I"⟩
def RX3 : String := "RepealedLaws"
def TX3 : u_T := fun k => match k with
  | 0 => ("RepealedLaws", "code", "LRepealedLaws$Code;", true)
  | 1 => ("RepealedLaws", "pad", "LRepealedLaws$Pad;", true)
  | 2 => ("RepealedLaws", "history", "LRepealedLaws$History;", true)
  | 3 => ("RepealedLaws", "slots", "[LRepealedLaws$Code;", true)
  | _ => ("RepealedLaws", "filled", "[Z", true)
def tyX3 : Nat → FieldType := fun k => match k with
  | 0 => .object "RepealedLaws$Code"
  | 1 => .object "RepealedLaws$Pad"
  | 2 => .object "RepealedLaws$History"
  | 3 => .array (.object "RepealedLaws$Code")
  | _ => .array .boolean
abbrev wsX30 : List Cond := u_ws RX3 TX3 5
theorem nmX3 : ∀ a, a < 5 → ∀ b, b < 5 → a ≠ b → (TX3 a).2.1 ≠ (TX3 b).2.1 := by decide +kernel
theorem tyX3_ok : ∀ k, k < 5 → parseFieldDescriptor (TX3 k).2.2.1 = some (tyX3 k) := by decide +kernel
abbrev cX3_init : ByteArray := prog_1_method_1_code
def yX3_init : MethodName := ⟨RX3, "<init>", "()V"⟩
abbrev cX3_set : ByteArray := prog_1_method_2_code
def yX3_set : MethodName := ⟨RX3, "set", "(II)I"⟩
abbrev cX3_wish : ByteArray := prog_1_method_3_code
def yX3_wish : MethodName := ⟨RX3, "wish", "(III)I"⟩
abbrev cX3_propose : ByteArray := prog_1_method_4_code
def yX3_propose : MethodName := ⟨RX3, "propose", "(IIII)I"⟩
abbrev cX3_repeal : ByteArray := prog_1_method_5_code
def yX3_repeal : MethodName := ⟨RX3, "repeal", "(I)I"⟩
abbrev cX3_endSession : ByteArray := prog_1_method_6_code
def yX3_endSession : MethodName := ⟨RX3, "endSession", "()I"⟩
abbrev cX3_read : ByteArray := prog_1_method_7_code
def yX3_read : MethodName := ⟨RX3, "read", "()I"⟩
abbrev cX3_law : ByteArray := prog_1_method_8_code
def yX3_law : MethodName := ⟨RX3, "law", "(II)I"⟩
abbrev cX3_topic : ByteArray := prog_1_method_9_code
def yX3_topic : MethodName := ⟨RX3, "topic", "(II)I"⟩
abbrev cX3_councillor : ByteArray := prog_1_method_10_code
def yX3_councillor : MethodName := ⟨RX3, "councillor", "(II)I"⟩
abbrev cX3_count : ByteArray := prog_1_method_11_code
def yX3_count : MethodName := ⟨RX3, "count", "(I)I"⟩
abbrev cX3_why : ByteArray := prog_1_method_12_code
def yX3_why : MethodName := ⟨RX3, "why", "(IIII)I"⟩
abbrev cX3_votes : ByteArray := prog_1_method_13_code
def yX3_votes : MethodName := ⟨RX3, "votes", "(IIII)I"⟩
abbrev cX3_bestRepeal : ByteArray := prog_1_method_14_code
def yX3_bestRepeal : MethodName := ⟨RX3, "bestRepeal", "(III)I"⟩
abbrev cX3_longestBill : ByteArray := prog_1_method_15_code
def yX3_longestBill : MethodName := ⟨RX3, "longestBill", "(II)I"⟩
abbrev cX3_bestBill : ByteArray := prog_1_method_16_code
def yX3_bestBill : MethodName := ⟨RX3, "bestBill", "()I"⟩
abbrev cX3_put : ByteArray := prog_1_method_17_code
def yX3_put : MethodName := ⟨RX3, "put", "(J)I"⟩
abbrev cX3_wipe : ByteArray := prog_1_method_18_code
def yX3_wipe : MethodName := ⟨RX3, "wipe", "()I"⟩
abbrev cX3_fault : ByteArray := prog_1_method_19_code
def yX3_fault : MethodName := ⟨RX3, "fault", "()I"⟩
abbrev cX3_undo : ByteArray := prog_1_method_20_code
def yX3_undo : MethodName := ⟨RX3, "undo", "()I"⟩
abbrev cX3_save : ByteArray := prog_1_method_21_code
def yX3_save : MethodName := ⟨RX3, "save", "(I)I"⟩
abbrev cX3_restore : ByteArray := prog_1_method_22_code
def yX3_restore : MethodName := ⟨RX3, "restore", "(I)I"⟩
abbrev cX3_isCouncillor : ByteArray := prog_1_method_23_code
def yX3_isCouncillor : MethodName := ⟨RX3, "isCouncillor", "(I)Z"⟩
abbrev cX3_isTopic : ByteArray := prog_1_method_24_code
def yX3_isTopic : MethodName := ⟨RX3, "isTopic", "(I)Z"⟩
abbrev cX3_isStance : ByteArray := prog_1_method_25_code
def yX3_isStance : MethodName := ⟨RX3, "isStance", "(I)Z"⟩
abbrev cX3_isLength : ByteArray := prog_1_method_26_code
def yX3_isLength : MethodName := ⟨RX3, "isLength", "(I)Z"⟩
abbrev cX3_isSlot : ByteArray := prog_1_method_27_code
def yX3_isSlot : MethodName := ⟨RX3, "isSlot", "(I)Z"⟩
abbrev cX3_errorOfBill : ByteArray := prog_1_method_28_code
def yX3_errorOfBill : MethodName := ⟨RX3, "errorOfBill", "(IIII)I"⟩
abbrev cX3_voteOn : ByteArray := prog_1_method_29_code
def yX3_voteOn : MethodName := ⟨RX3, "voteOn", "(III)Z"⟩
abbrev cX3_signsIn : ByteArray := prog_1_method_30_code
def yX3_signsIn : MethodName := ⟨RX3, "signsIn", "(J)I"⟩
def RX4 : String := "RepealedLawsModel"
def TX4 : u_T := fun k => match k with
  | 0 => ("RepealedLawsModel", "all", "[I", true)
  | 1 => ("RepealedLawsModel", "history", "[I", true)
  | 2 => ("RepealedLawsModel", "historyLong", "I", false)
  | 3 => ("RepealedLawsModel", "slots", "[I", true)
  | 4 => ("RepealedLawsModel", "isSaved", "[I", true)
  | 5 => ("RepealedLawsModel", "text", "[I", true)
  | 6 => ("RepealedLawsModel", "textLong", "I", false)
  | 7 => ("RepealedLawsModel", "spot", "I", false)
  | 8 => ("RepealedLawsModel", "bills", "[I", true)
  | _ => ("RepealedLawsModel", "read", "I", false)
def tyX4 : Nat → FieldType := fun k => match k with
  | 0 => .array .int
  | 1 => .array .int
  | 2 => .int
  | 3 => .array .int
  | 4 => .array .int
  | 5 => .array .int
  | 6 => .int
  | 7 => .int
  | 8 => .array .int
  | _ => .int
abbrev wsX40 : List Cond := u_ws RX4 TX4 10
theorem nmX4 : ∀ a, a < 10 → ∀ b, b < 10 → a ≠ b → (TX4 a).2.1 ≠ (TX4 b).2.1 := by decide +kernel
theorem tyX4_ok : ∀ k, k < 10 → parseFieldDescriptor (TX4 k).2.2.1 = some (tyX4 k) := by decide +kernel
abbrev cX4_init : ByteArray := prog_6_method_1_code
def yX4_init : MethodName := ⟨RX4, "<init>", "()V"⟩
abbrev cX4_in : ByteArray := prog_6_method_3_code
def yX4_in : MethodName := ⟨RX4, "in", "(JJJ)Z"⟩
abbrev cX4_changes : ByteArray := prog_6_method_4_code
def yX4_changes : MethodName := ⟨RX4, "changes", "()V"⟩
abbrev cX4_isTopic : ByteArray := prog_6_method_5_code
def yX4_isTopic : MethodName := ⟨RX4, "isTopic", "(I)Z"⟩
abbrev cX4_isStance : ByteArray := prog_6_method_6_code
def yX4_isStance : MethodName := ⟨RX4, "isStance", "(I)Z"⟩
abbrev cX4_isLaw : ByteArray := prog_6_method_7_code
def yX4_isLaw : MethodName := ⟨RX4, "isLaw", "(I)Z"⟩
abbrev cX4_get : ByteArray := prog_6_method_8_code
def yX4_get : MethodName := ⟨RX4, "get", "(II)I"⟩
abbrev cX4_lays : ByteArray := prog_6_method_9_code
def yX4_lays : MethodName := ⟨RX4, "lays", "(III)V"⟩
abbrev cX4_isInForce : ByteArray := prog_6_method_10_code
def yX4_isInForce : MethodName := ⟨RX4, "isInForce", "(I)Z"⟩
abbrev cX4_isLike : ByteArray := prog_6_method_11_code
def yX4_isLike : MethodName := ⟨RX4, "isLike", "(IIII)Z"⟩
abbrev cX4_contradict : ByteArray := prog_6_method_12_code
def yX4_contradict : MethodName := ⟨RX4, "contradict", "(II)Z"⟩
abbrev cX4_against : ByteArray := prog_6_method_13_code
def yX4_against : MethodName := ⟨RX4, "against", "(I)I"⟩
abbrev cX4_inForce : ByteArray := prog_6_method_14_code
def yX4_inForce : MethodName := ⟨RX4, "inForce", "(I)I"⟩
abbrev cX4_holder : ByteArray := prog_6_method_15_code
def yX4_holder : MethodName := ⟨RX4, "holder", "(I)I"⟩
abbrev cX4_holds : ByteArray := prog_6_method_16_code
def yX4_holds : MethodName := ⟨RX4, "holds", "(I)I"⟩
abbrev cX4_pairs : ByteArray := prog_6_method_17_code
def yX4_pairs : MethodName := ⟨RX4, "pairs", "(I)I"⟩
abbrev cX4_wishAt : ByteArray := prog_6_method_18_code
def yX4_wishAt : MethodName := ⟨RX4, "wishAt", "(II)I"⟩
abbrev cX4_joy : ByteArray := prog_6_method_19_code
def yX4_joy : MethodName := ⟨RX4, "joy", "(III)I"⟩
abbrev cX4_voters : ByteArray := prog_6_method_20_code
def yX4_voters : MethodName := ⟨RX4, "voters", "(III)I"⟩
abbrev cX4_bits : ByteArray := prog_6_method_21_code
def yX4_bits : MethodName := ⟨RX4, "bits", "(I)I"⟩
abbrev cX4_isThereAlike : ByteArray := prog_6_method_22_code
def yX4_isThereAlike : MethodName := ⟨RX4, "isThereAlike", "(IIII)Z"⟩
abbrev cX4_isRemembered : ByteArray := prog_6_method_23_code
def yX4_isRemembered : MethodName := ⟨RX4, "isRemembered", "(III)Z"⟩
abbrev cX4_isThereAsLong : ByteArray := prog_6_method_24_code
def yX4_isThereAsLong : MethodName := ⟨RX4, "isThereAsLong", "(I)Z"⟩
abbrev cX4_reason : ByteArray := prog_6_method_25_code
def yX4_reason : MethodName := ⟨RX4, "reason", "(IIII)I"⟩
abbrev cX4_best : ByteArray := prog_6_method_26_code
def yX4_best : MethodName := ⟨RX4, "best", "(III)I"⟩
abbrev cX4_passes : ByteArray := prog_6_method_27_code
def yX4_passes : MethodName := ⟨RX4, "passes", "(IIII)I"⟩
abbrev cX4_isSetting : ByteArray := prog_6_method_28_code
def yX4_isSetting : MethodName := ⟨RX4, "isSetting", "(II)Z"⟩
abbrev cX4_set : ByteArray := prog_6_method_29_code
def yX4_set : MethodName := ⟨RX4, "set", "(II)I"⟩
abbrev cX4_isCouncillor : ByteArray := prog_6_method_30_code
def yX4_isCouncillor : MethodName := ⟨RX4, "isCouncillor", "(I)Z"⟩
abbrev cX4_wish : ByteArray := prog_6_method_31_code
def yX4_wish : MethodName := ⟨RX4, "wish", "(III)I"⟩
abbrev cX4_wrong : ByteArray := prog_6_method_32_code
def yX4_wrong : MethodName := ⟨RX4, "wrong", "(IIII)I"⟩
abbrev cX4_propose : ByteArray := prog_6_method_33_code
def yX4_propose : MethodName := ⟨RX4, "propose", "(IIII)I"⟩
abbrev cX4_repeal : ByteArray := prog_6_method_34_code
def yX4_repeal : MethodName := ⟨RX4, "repeal", "(I)I"⟩
abbrev cX4_ends : ByteArray := prog_6_method_35_code
def yX4_ends : MethodName := ⟨RX4, "ends", "()I"⟩
abbrev cX4_endSession : ByteArray := prog_6_method_36_code
def yX4_endSession : MethodName := ⟨RX4, "endSession", "()I"⟩
abbrev cX4_law : ByteArray := prog_6_method_37_code
def yX4_law : MethodName := ⟨RX4, "law", "(II)I"⟩
abbrev cX4_wishers : ByteArray := prog_6_method_38_code
def yX4_wishers : MethodName := ⟨RX4, "wishers", "(I)I"⟩
abbrev cX4_topic : ByteArray := prog_6_method_39_code
def yX4_topic : MethodName := ⟨RX4, "topic", "(II)I"⟩
abbrev cX4_granted : ByteArray := prog_6_method_40_code
def yX4_granted : MethodName := ⟨RX4, "granted", "(I)I"⟩
abbrev cX4_liked : ByteArray := prog_6_method_41_code
def yX4_liked : MethodName := ⟨RX4, "liked", "(I)I"⟩
abbrev cX4_councillor : ByteArray := prog_6_method_42_code
def yX4_councillor : MethodName := ⟨RX4, "councillor", "(II)I"⟩
abbrev cX4_words : ByteArray := prog_6_method_43_code
def yX4_words : MethodName := ⟨RX4, "words", "()I"⟩
abbrev cX4_ruledTopics : ByteArray := prog_6_method_44_code
def yX4_ruledTopics : MethodName := ⟨RX4, "ruledTopics", "()I"⟩
abbrev cX4_count : ByteArray := prog_6_method_45_code
def yX4_count : MethodName := ⟨RX4, "count", "(I)I"⟩
abbrev cX4_why : ByteArray := prog_6_method_46_code
def yX4_why : MethodName := ⟨RX4, "why", "(IIII)I"⟩
abbrev cX4_votes : ByteArray := prog_6_method_47_code
def yX4_votes : MethodName := ⟨RX4, "votes", "(IIII)I"⟩
abbrev cX4_bestRepeal : ByteArray := prog_6_method_48_code
def yX4_bestRepeal : MethodName := ⟨RX4, "bestRepeal", "(III)I"⟩
abbrev cX4_wouldPass : ByteArray := prog_6_method_49_code
def yX4_wouldPass : MethodName := ⟨RX4, "wouldPass", "(III)Z"⟩
abbrev cX4_longestBill : ByteArray := prog_6_method_50_code
def yX4_longestBill : MethodName := ⟨RX4, "longestBill", "(II)I"⟩
abbrev cX4_bestBill : ByteArray := prog_6_method_51_code
def yX4_bestBill : MethodName := ⟨RX4, "bestBill", "()I"⟩
abbrev cX4_charactersOf : ByteArray := prog_6_method_52_code
def yX4_charactersOf : MethodName := ⟨RX4, "charactersOf", "(J)I"⟩
abbrev cX4_put : ByteArray := prog_6_method_53_code
def yX4_put : MethodName := ⟨RX4, "put", "(J)I"⟩
abbrev cX4_wipe : ByteArray := prog_6_method_54_code
def yX4_wipe : MethodName := ⟨RX4, "wipe", "()I"⟩
abbrev cX4_isHere : ByteArray := prog_6_method_55_code
def yX4_isHere : MethodName := ⟨RX4, "isHere", "(II)Z"⟩
abbrev cX4_takesOne : ByteArray := prog_6_method_56_code
def yX4_takesOne : MethodName := ⟨RX4, "takesOne", "(I)Z"⟩
abbrev cX4_readsBill : ByteArray := prog_6_method_57_code
def yX4_readsBill : MethodName := ⟨RX4, "readsBill", "()Z"⟩
abbrev cX4_fault : ByteArray := prog_6_method_58_code
def yX4_fault : MethodName := ⟨RX4, "fault", "()I"⟩
abbrev cX4_read : ByteArray := prog_6_method_59_code
def yX4_read : MethodName := ⟨RX4, "read", "()I"⟩
abbrev cX4_undo : ByteArray := prog_6_method_60_code
def yX4_undo : MethodName := ⟨RX4, "undo", "()I"⟩
abbrev cX4_isSlot : ByteArray := prog_6_method_61_code
def yX4_isSlot : MethodName := ⟨RX4, "isSlot", "(I)Z"⟩
abbrev cX4_save : ByteArray := prog_6_method_62_code
def yX4_save : MethodName := ⟨RX4, "save", "(I)I"⟩
abbrev cX4_restore : ByteArray := prog_6_method_63_code
def yX4_restore : MethodName := ⟨RX4, "restore", "(I)I"⟩
def RJ6 : String := "java/lang/Integer"
def TJ6 : u_T := fun k => match k with
  | _ => ("", "", "", false)
def tyJ6 : Nat → FieldType := fun k => match k with
  | _ => .int
abbrev wsJ60 : List Cond := u_ws RJ6 TJ6 0
theorem nmJ6 : ∀ a, a < 0 → ∀ b, b < 0 → a ≠ b → (TJ6 a).2.1 ≠ (TJ6 b).2.1 := by decide +kernel
theorem tyJ6_ok : ∀ k, k < 0 → parseFieldDescriptor (TJ6 k).2.2.1 = some (tyJ6 k) := by decide +kernel
abbrev cJ6_bitCount_0f7a4 : ByteArray := prog_7_method_49_code
def yJ6_bitCount_0f7a4 : MethodName := ⟨RJ6, "bitCount", "(I)I"⟩
def RJ10 : String := "java/lang/System"
def TJ10 : u_T := fun k => match k with
  | _ => ("", "", "", false)
def tyJ10 : Nat → FieldType := fun k => match k with
  | _ => .int
abbrev wsJ100 : List Cond := u_ws RJ10 TJ10 0
theorem nmJ10 : ∀ a, a < 0 → ∀ b, b < 0 → a ≠ b → (TJ10 a).2.1 ≠ (TJ10 b).2.1 := by decide +kernel
theorem tyJ10_ok : ∀ k, k < 0 → parseFieldDescriptor (TJ10 k).2.2.1 = some (tyJ10 k) := by decide +kernel
def RL : String := "RepealedLawsLaw"
abbrev cL_law : ByteArray := code
def yL_law : MethodName := ⟨RL, "law", "([I)Z"⟩
abbrev vwCl : List vw_C := [(RX0, TX0, 12), (RX1, TX1, 3), (RX2, TX2, 2), (RX3, TX3, 5), (RX4, TX4, 10)]
/-- the tables' words that a callee may be given -/
def zt : List Cond := lw_tbl.filter goodWord
theorem zt_good : ∀ w ∈ zt, goodWord w = true := fun _ h => (List.mem_filter.mp h).2
theorem zt_in : ∀ w ∈ zt, w ∈ lw_tbl := fun _ h => (List.mem_filter.mp h).1
theorem zt_X0 : ∀ w ∈ wsX00, w ∈ zt := by decide +kernel
theorem zt_X1 : ∀ w ∈ wsX10, w ∈ zt := by decide +kernel
theorem zt_X2 : ∀ w ∈ wsX20, w ∈ zt := by decide +kernel
theorem zt_X3 : ∀ w ∈ wsX30, w ∈ zt := by decide +kernel
theorem zt_X4 : ∀ w ∈ wsX40, w ∈ zt := by decide +kernel
end
section
/-! THE Z LOGIC: a method's walk over abstract cells. An abstract cell is named by a number; 'ad' says at which address it lies. -/
abbrev ZC : Type := (Nat × Nat × (Nat → Int32)) ⊕ ((Nat × List Value) ⊕ (Nat × (Nat → Option Nat)))
def zv (ad : Nat → Nat) (v : Value) : Value := match v with
  | .ref i => .ref (ad i)
  | v => v
def zce (cA : Nat → ClassId) (ad : Nat → Nat) (c : ZC) : va_E := match c with
  | .inl x => .inl (cA x.1, x.2.1, .inl x.2.2)
  | .inr (.inl x) => .inr (x.1, x.2.map (zv ad))
  | .inr (.inr x) => .inl (cA 3, x.1, .inr (.inr (.inr (.inr (fun j => (x.2 j).map ad)))))
def zW (cA : Nat → ClassId) (ad : Nat → Nat) (h : List ZC) : va_W := h.mapIdx (fun i c => (ad i, zce cA ad c))
def zT (cA : Nat → ClassId) : List (ClassId × FieldType) := [(cA 0, .int), (cA 1, .char), (cA 2, .boolean), (cA 3, .object RX0)]
theorem zW_get {cA : Nat → ClassId} {ad : Nat → Nat} {h : List ZC} {i : Nat} {c : ZC} (hi : h[i]? = some c) : (zW cA ad h)[i]? = some (ad i, zce cA ad c) := by
  simp [zW, hi]
theorem zW_inv {cA : Nat → ClassId} {ad : Nat → Nat} {h : List ZC} {i : Nat} {q : Nat × va_E} (hi : (zW cA ad h)[i]? = some q) : ∃ c, h[i]? = some c ∧ q = (ad i, zce cA ad c) := by
  simp only [zW, List.getElem?_mapIdx, Option.map_eq_some_iff] at hi
  obtain ⟨c, h1, h2⟩ := hi
  exact ⟨c, h1, h2.symm⟩
theorem zW_set {cA : Nat → ClassId} {ad : Nat → Nat} {h : List ZC} {i : Nat} (c : ZC) : (zW cA ad h).set i (ad i, zce cA ad c) = zW cA ad (h.set i c) := by
  apply List.ext_getElem?
  intro j
  simp only [zW, List.getElem?_set, List.getElem?_mapIdx, List.length_mapIdx]
  by_cases hj : i = j
  · subst hj
    by_cases hl : i < h.length <;> simp [hl]
  · simp [hj]
def zg {α : Type} : List α → Nat → Option α
  | [], _ => none
  | a :: _, 0 => some a
  | _ :: l, n + 1 => zg l n
theorem zg_eq {α : Type} : ∀ (l : List α) (n : Nat), zg l n = l[n]?
  | [], n => by simp [zg]
  | a :: l, 0 => by simp [zg]
  | a :: l, n + 1 => by simp [zg, zg_eq l n]
/-! locals -/
def zHas (ad : Nat → Nat) (la : Array Slot) (ls : List (Option Value)) : Prop := la.size = ls.length ∧ lv_wf la ∧ ∀ (i : Nat) (v : Value), ls[i]? = some (some v) → la[i]? = some (.val (zv ad v))
def zLs (ad : Nat → Nat) (ls : List (Option Value)) : List (Nat × Value) := ls.zipIdx.filterMap (fun q => q.1.map (fun v => (q.2, zv ad v)))
theorem zLs_mem {ad : Nat → Nat} {ls : List (Option Value)} {q : Nat × Value} : q ∈ zLs ad ls ↔ ∃ v, ls[q.1]? = some (some v) ∧ q.2 = zv ad v := by
  unfold zLs
  rw [List.mem_filterMap]
  constructor
  · rintro ⟨⟨o, i⟩, h1, h2⟩
    rw [List.mem_zipIdx_iff_getElem?] at h1
    cases o with
    | none => simp at h2
    | some v =>
      simp only [Option.map_some, Option.some.injEq] at h2
      subst h2
      exact ⟨v, h1, rfl⟩
  · rintro ⟨v, h1, h2⟩
    refine ⟨(some v, q.1), by rw [List.mem_zipIdx_iff_getElem?]; exact h1, ?_⟩
    simp only [Option.map_some, Option.some.injEq]
    rw [← h2]
theorem zHas_lv {ad : Nat → Nat} {la : Array Slot} {ls : List (Option Value)} (h : zHas ad la ls) : lv_has la ls.length (zLs ad ls) := by
  refine ⟨h.1, h.2.1, fun q hq => ?_⟩
  obtain ⟨v, h1, h2⟩ := zLs_mem.mp hq
  rw [h2]
  exact h.2.2 q.1 v h1
def zkl (ls : List (Option Value)) (i : Nat) : List (Option Value) := match i with
  | 0 => ls
  | j + 1 => match zg ls j with
    | some (some (.long _)) => ls.set j none
    | some (some (.double _)) => ls.set j none
    | _ => ls
def zst (ls : List (Option Value)) (i : Nat) (v : Value) : List (Option Value) := (zkl ls i).set i (some v)
def zst2 (ls : List (Option Value)) (i : Nat) (v : Value) : List (Option Value) := ((zkl ls i).set i (some v)).set (i + 1) none
theorem zkl_len (ls : List (Option Value)) (i : Nat) : (zkl ls i).length = ls.length := by
  cases i with
  | zero => rfl
  | succ j =>
    simp only [zkl]
    split <;> simp
theorem zst_len (ls : List (Option Value)) (i : Nat) (v : Value) : (zst ls i v).length = ls.length := by simp [zst, zkl_len]
theorem zst2_len (ls : List (Option Value)) (i : Nat) (v : Value) : (zst2 ls i v).length = ls.length := by simp [zst2, zkl_len]
theorem zkl_get {ls : List (Option Value)} {i j : Nat} {v : Value} (h : (zkl ls i)[j]? = some (some v)) : ls[j]? = some (some v) ∧ ¬ (j + 1 = i ∧ v.category = 2) := by
  cases i with
  | zero => exact ⟨h, fun q => by omega⟩
  | succ k =>
    simp only [zkl, zg_eq] at h
    split at h
    · rename_i x hx
      by_cases e : k = j
      · subst e
        rw [List.getElem?_set_self (List.getElem?_eq_some_iff.mp hx).1] at h
        simp at h
      · rw [List.getElem?_set_ne e] at h
        exact ⟨h, fun q => e (by omega)⟩
    · rename_i x hx
      by_cases e : k = j
      · subst e
        rw [List.getElem?_set_self (List.getElem?_eq_some_iff.mp hx).1] at h
        simp at h
      · rw [List.getElem?_set_ne e] at h
        exact ⟨h, fun q => e (by omega)⟩
    · rename_i h1 h2
      refine ⟨h, fun q => ?_⟩
      have e : j = k := by omega
      subst e
      cases v with
      | long x => exact h1 _ h
      | double x => exact h2 _ h
      | _ => simp [Value.category] at q
theorem zHas_st {ad : Nat → Nat} {la : Array Slot} {ls : List (Option Value)} {i : Nat} {v : Value}
    (h : lv_has la ls.length ((i, zv ad v) :: (zLs ad ls).filter (fun q => !(q.1 == i) && !(q.1 + 1 == i && q.2.category == 2)))) : zHas ad la (zst ls i v) := by
  refine ⟨by rw [zst_len]; exact h.1, h.2.1, fun j w hj => ?_⟩
  unfold zst at hj
  by_cases e : i = j
  · subst e
    by_cases hl : i < (zkl ls i).length
    · rw [List.getElem?_set_self hl] at hj
      cases hj
      exact h.2.2 (i, zv ad v) List.mem_cons_self
    · rw [List.getElem?_eq_none (by simp; omega)] at hj
      cases hj
  · rw [List.getElem?_set_ne e] at hj
    obtain ⟨h1, h2⟩ := zkl_get hj
    refine h.2.2 (j, zv ad w) (List.mem_cons_of_mem _ (List.mem_filter.mpr ⟨zLs_mem.mpr ⟨w, h1, rfl⟩, ?_⟩))
    have hc : (zv ad w).category = w.category := by cases w <;> rfl
    simp only [Bool.and_eq_true, Bool.not_eq_true', beq_eq_false_iff_ne, ne_eq, Bool.and_eq_false_iff]
    refine ⟨fun q => e q.symm, ?_⟩
    by_cases hh : j + 1 = i
    · right
      rw [hc]
      exact fun q => h2 ⟨hh, q⟩
    · left
      exact hh
theorem zHas_st2 {ad : Nat → Nat} {la : Array Slot} {ls : List (Option Value)} {i : Nat} {v : Value}
    (h : lv_has la ls.length ((i, zv ad v) :: (zLs ad ls).filter (fun q => !(q.1 == i) && (!(q.1 == i + 1) && !(q.1 + 1 == i && q.2.category == 2))))) : zHas ad la (zst2 ls i v) := by
  refine ⟨by rw [zst2_len]; exact h.1, h.2.1, fun j w hj => ?_⟩
  unfold zst2 at hj
  by_cases e2 : i + 1 = j
  · subst e2
    by_cases hl : i + 1 < ((zkl ls i).set i (some v)).length
    · rw [List.getElem?_set_self hl] at hj
      cases hj
    · rw [List.getElem?_eq_none (by simp at hl ⊢; omega)] at hj
      cases hj
  · rw [List.getElem?_set_ne e2] at hj
    by_cases e : i = j
    · subst e
      by_cases hl : i < (zkl ls i).length
      · rw [List.getElem?_set_self hl] at hj
        cases hj
        exact h.2.2 (i, zv ad v) List.mem_cons_self
      · rw [List.getElem?_eq_none (by simp; omega)] at hj
        cases hj
    · rw [List.getElem?_set_ne e] at hj
      obtain ⟨h1, h2⟩ := zkl_get hj
      refine h.2.2 (j, zv ad w) (List.mem_cons_of_mem _ (List.mem_filter.mpr ⟨zLs_mem.mpr ⟨w, h1, rfl⟩, ?_⟩))
      have hc : (zv ad w).category = w.category := by cases w <;> rfl
      simp only [Bool.and_eq_true, Bool.not_eq_true', beq_eq_false_iff_ne, ne_eq, Bool.and_eq_false_iff]
      refine ⟨fun q => e q.symm, fun q => e2 q.symm, ?_⟩
      by_cases hh : j + 1 = i
      · right
        rw [hc]
        exact fun q => h2 ⟨hh, q⟩
      · left
        exact hh
def zmk : List Bool → List (Option Value) → List (Option Value)
  | b :: bs, v :: vs => (match b with | true => v | false => none) :: zmk bs vs
  | _, vs => vs
theorem zmk_len : ∀ (bs : List Bool) (ls : List (Option Value)), (zmk bs ls).length = ls.length
  | [], ls => by cases ls <;> rfl
  | b :: bs, [] => rfl
  | b :: bs, v :: vs => by simp [zmk, zmk_len bs vs]
theorem zmk_get : ∀ (bs : List Bool) (ls : List (Option Value)) (i : Nat) (v : Value), (zmk bs ls)[i]? = some (some v) → ls[i]? = some (some v)
  | [], ls, i, v, h => by cases ls <;> exact h
  | b :: bs, [], i, v, h => h
  | b :: bs, w :: vs, 0, v, h => by
    cases b with
    | true => simpa [zmk] using h
    | false => simp [zmk] at h
  | b :: bs, w :: vs, i + 1, v, h => by
    simp only [zmk, List.getElem?_cons_succ] at h ⊢
    exact zmk_get bs vs i v h
theorem zHas_mk {ad : Nat → Nat} {la : Array Slot} {ls : List (Option Value)} (bs : List Bool) (h : zHas ad la ls) : zHas ad la (zmk bs ls) :=
  ⟨by rw [zmk_len]; exact h.1, h.2.1, fun i v hi => h.2.2 i v (zmk_get bs ls i v hi)⟩
/-- a method's first locals -/
def zargl : List Value → List (Option Value)
  | [] => []
  | .long x :: vs => some (.long x) :: none :: zargl vs
  | .double x :: vs => some (.double x) :: none :: zargl vs
  | v :: vs => some v :: zargl vs
def zarg (nL : Nat) (vs : List Value) : List (Option Value) := zargl vs ++ List.replicate (nL - (zargl vs).length) none
theorem zargl_get {ad : Nat → Nat} : ∀ (vs : List Value) (k i : Nat) (v : Value), (zargl vs)[i]? = some (some v) → (k + i, zv ad v) ∈ lv_args k (vs.map (zv ad))
  | [], k, i, v, h => by simp [zargl] at h
  | w :: vs, k, i, v, h => by
    have hc : (zv ad w).category = w.category := by cases w <;> rfl
    have two : ∀ (_ : w.category = 2) (_ : zargl (w :: vs) = some w :: none :: zargl vs), (k + i, zv ad v) ∈ lv_args k ((w :: vs).map (zv ad)) := by
      intro h2 he
      rw [he] at h
      simp only [List.map_cons, lv_args, hc, h2, if_true]
      match i, h with
      | 0, h => simp at h; subst h; exact List.mem_cons_self
      | 1, h => simp at h
      | i + 2, h =>
        simp only [List.getElem?_cons_succ] at h
        have := zargl_get (ad := ad) vs (k + 2) i v h
        rw [show k + (i + 2) = k + 2 + i by omega]
        exact List.mem_cons_of_mem _ this
    have one : ∀ (_ : ¬ w.category = 2) (_ : zargl (w :: vs) = some w :: zargl vs), (k + i, zv ad v) ∈ lv_args k ((w :: vs).map (zv ad)) := by
      intro h2 he
      rw [he] at h
      simp only [List.map_cons, lv_args, hc, h2, if_false]
      match i, h with
      | 0, h => simp at h; subst h; exact List.mem_cons_self
      | i + 1, h =>
        simp only [List.getElem?_cons_succ] at h
        have := zargl_get (ad := ad) vs (k + 1) i v h
        rw [show k + (i + 1) = k + 1 + i by omega]
        exact List.mem_cons_of_mem _ this
    cases w with
    | long x => exact two rfl rfl
    | double x => exact two rfl rfl
    | int x => exact one (by simp [Value.category]) rfl
    | float x => exact one (by simp [Value.category]) rfl
    | null => exact one (by simp [Value.category]) rfl
    | ref x => exact one (by simp [Value.category]) rfl
    | retAddr x => exact one (by simp [Value.category]) rfl
theorem zsl_cons (v : Value) (vs : List Value) : lg_sl (v :: vs) = (if v.category = 2 then [.val v, .second] else [.val v]) ++ lg_sl vs := rfl
theorem zargl_len (ad : Nat → Nat) : ∀ vs : List Value, (lg_sl (vs.map (zv ad))).length = (zargl vs).length
  | [] => rfl
  | w :: vs => by
    have ih := zargl_len ad vs
    rw [List.map_cons, zsl_cons, List.length_append, ih]
    cases w <;> simp [zargl, zv, Value.category] <;> omega
theorem zHas_arg {ad : Nat → Nat} {vs : List Value} {nL : Nat} (h : (zargl vs).length ≤ nL) :
    zHas ad ((lg_sl (vs.map (zv ad)) ++ List.replicate (nL - (lg_sl (vs.map (zv ad))).length) Slot.unset).toArray) (zarg nL vs) := by
  have e := lv_entry (vs.map (zv ad)) (n := nL) (by rw [zargl_len]; exact h)
  refine ⟨by rw [e.1]; simp [zarg]; omega, e.2.1, fun i v hi => ?_⟩
  unfold zarg at hi
  by_cases hl : i < (zargl vs).length
  · rw [List.getElem?_append_left hl] at hi
    have := e.2.2 _ (zargl_get (ad := ad) vs 0 i v hi)
    simpa using this
  · rw [List.getElem?_append_right (by omega), List.getElem?_replicate] at hi
    split at hi <;> simp at hi
end
section
/-! THE Z LOGIC, rules: tables of fields and long constants, instructions in normal form (absolute targets), what each does to abstract cells -/
def zf0 : List (Nat × Nat × Nat) := [(9, 0, 0), (15, 0, 1), (18, 0, 2), (21, 0, 3), (24, 0, 4), (27, 0, 5), (30, 0, 6), (33, 0, 7), (36, 0, 8), (45, 0, 9), (49, 0, 10), (52, 0, 11)]
def zl0 : List (Nat × Nat) := []
def zf1 : List (Nat × Nat × Nat) := [(11, 1, 0), (18, 1, 2), (30, 1, 1)]
def zl1 : List (Nat × Nat) := []
def zf2 : List (Nat × Nat × Nat) := [(9, 2, 0), (15, 2, 1)]
def zl2 : List (Nat × Nat) := []
def zf3 : List (Nat × Nat × Nat) := [(10, 3, 0), (19, 3, 1), (26, 3, 2), (30, 3, 3), (34, 3, 4), (49, 0, 0), (87, 0, 10), (91, 0, 5), (101, 2, 1), (118, 0, 11), (127, 0, 2), (130, 0, 3), (133, 0, 4), (136, 0, 6), (139, 0, 7), (142, 0, 8), (169, 0, 9), (187, 1, 2)]
def zl3 : List (Nat × Nat) := [(214, 255), (232, 33), (234, 126)]
def zf4 : List (Nat × Nat × Nat) := [(7, 4, 0), (13, 4, 1), (16, 4, 3), (19, 4, 4), (22, 4, 5), (25, 4, 8), (28, 4, 2), (153, 4, 6), (178, 4, 7), (187, 4, 9)]
def zl4 : List (Nat × Nat) := [(32, 5), (38, 2), (93, 16), (95, 9), (103, 4), (111, 3), (130, 6), (168, 255), (170, 33), (172, 126)]
def zf5 : List (Nat × Nat × Nat) := []
def zl5 : List (Nat × Nat) := [(78, 4294967295)]
def zft (o : Nat) : List (Nat × Nat × Nat) := match o with
  | 0 => zf0
  | 1 => zf1
  | 2 => zf2
  | 3 => zf3
  | 4 => zf4
  | 5 => zf5
  | _ => []
def zlo (o : Nat) : List (Nat × Nat) := match o with
  | 0 => zl0
  | 1 => zl1
  | 2 => zl2
  | 3 => zl3
  | 4 => zl4
  | 5 => zl5
  | _ => []
def zlw (o : Nat) : List (Nat × Nat) := match o with
  | 6 => [(265, 1431655765), (266, 858993459), (267, 252645135)]
  | _ => []
def zcn (o : Nat) : String := match o with
  | 0 => RX0
  | 1 => RX1
  | 2 => RX2
  | 3 => RX3
  | 4 => RX4
  | 5 => RL
  | _ => RJ6
def zcT (o : Nat) : u_T := match o with
  | 0 => TX0
  | 1 => TX1
  | 2 => TX2
  | 3 => TX3
  | _ => TX4
def zcN (o : Nat) : Nat := match o with
  | 0 => 12
  | 1 => 3
  | 2 => 2
  | 3 => 5
  | _ => 10
def zcty (o : Nat) : Nat → FieldType := match o with
  | 0 => tyX0
  | 1 => tyX1
  | 2 => tyX2
  | 3 => tyX3
  | _ => tyX4
theorem zc5 {P : Nat → Prop} (h0 : P 0) (h1 : P 1) (h2 : P 2) (h3 : P 3) (h4 : P 4) : ∀ i, i < 5 → P i := by
  intro i hi
  match i, hi with
  | 0, _ => exact h0
  | 1, _ => exact h1
  | 2, _ => exact h2
  | 3, _ => exact h3
  | 4, _ => exact h4
  | n + 5, h => exact absurd h (by omega)
theorem zc_cl : ∀ i, i < 5 → vwCl[i]? = some (zcn i, zcT i, zcN i) := zc5 rfl rfl rfl rfl rfl
theorem zc_ws : ∀ i, i < 5 → ∀ w ∈ u_ws (zcn i) (zcT i) (zcN i), w ∈ zt := zc5 zt_X0 zt_X1 zt_X2 zt_X3 zt_X4
theorem zc_ty : ∀ i, i < 5 → ∀ k, k < zcN i → parseFieldDescriptor (zcT i k).2.2.1 = some (zcty i k) := zc5 tyX0_ok tyX1_ok tyX2_ok tyX3_ok tyX4_ok
theorem zc_nm : ∀ i, i < 5 → ∀ a, a < zcN i → ∀ b, b < zcN i → a ≠ b → (zcT i a).2.1 ≠ (zcT i b).2.1 := zc5 nmX0 nmX1 nmX2 nmX3 nmX4
theorem zc_int : ∀ i, i < 5 → ∀ k, k < zcN i → (zcT i k).2.2.2 = false → parseFieldDescriptor (zcT i k).2.2.1 = some .int := zc5 (by decide +kernel) (by decide +kernel) (by decide +kernel) (by decide +kernel) (by decide +kernel)
def zlk {β : Type} (l : List (Nat × β)) (i : Nat) : Option β := match l with
  | [] => none
  | q :: t => match Nat.beq q.1 i with
    | true => some q.2
    | false => zlk t i
theorem zlk_mem {β : Type} : ∀ (l : List (Nat × β)) (i : Nat) (b : β), zlk l i = some b → (i, b) ∈ l
  | [], i, b, h => by simp [zlk] at h
  | q :: t, i, b, h => by
    simp only [zlk] at h
    split at h
    · rename_i e
      have e2 : q.1 = i := Nat.eq_of_beq_eq_true e
      cases h
      subst e2
      exact List.mem_cons_self
    · exact List.mem_cons_of_mem _ (zlk_mem t i b h)
def zfB (o : Nat) (q : Nat × Nat × Nat) : Bool := decide (q.2.1 < 5) && decide (q.2.2 < zcN q.2.1) && decide (Cond.fieldLink (zcn o) q.1 (zcn q.2.1) (zcT q.2.1 q.2.2).2.1 (zcT q.2.1 q.2.2).2.2.1 ∈ zt) && decide ((zcT q.2.1 q.2.2).1 = zcn q.2.1)
theorem zfB_ok : ∀ o, (zft o).all (zfB o) = true := by
  intro o
  match o with
  | 0 => decide +kernel
  | 1 => decide +kernel
  | 2 => decide +kernel
  | 3 => decide +kernel
  | 4 => decide +kernel
  | 5 => decide +kernel
  | n + 6 => rfl
theorem zf_ok {o i ci k : Nat} (h : zlk (zft o) i = some (ci, k)) : ci < 5 ∧ k < zcN ci ∧ Cond.fieldLink (zcn o) i (zcn ci) (zcT ci k).2.1 (zcT ci k).2.2.1 ∈ zt ∧ (zcT ci k).1 = zcn ci := by
  have h1 := List.all_eq_true.mp (zfB_ok o) _ (zlk_mem _ _ _ h)
  simp only [zfB, Bool.and_eq_true, decide_eq_true_eq] at h1
  exact ⟨h1.1.1.1, h1.1.1.2, h1.1.2, h1.2⟩
theorem zl_ok : ∀ (o i v : Nat), zlk (zlo o) i = some v → Cond.constantLong (zcn o) i (lN v) ∈ zt := by
  have key : ∀ o, (zlo o).all (fun q => decide (Cond.constantLong (zcn o) q.1 (lN q.2) ∈ zt)) = true := by
    intro o
    match o with
    | 0 => decide +kernel
    | 1 => decide +kernel
    | 2 => decide +kernel
    | 3 => decide +kernel
    | 4 => decide +kernel
    | 5 => decide +kernel
    | n + 6 => rfl
  intro o i v h
  have h1 := List.all_eq_true.mp (key o) _ (zlk_mem _ _ _ h)
  simpa using h1
theorem zw_ok : ∀ (o i v : Nat), zlk (zlw o) i = some v → Cond.constant (zcn o) i (nI v) ∈ zt := by
  have key : ∀ o, (zlw o).all (fun q => decide (Cond.constant (zcn o) q.1 (nI q.2) ∈ zt)) = true := by
    intro o
    match o with
    | 0 => decide +kernel
    | 1 => decide +kernel
    | 2 => decide +kernel
    | 3 => decide +kernel
    | 4 => decide +kernel
    | 5 => decide +kernel
    | 6 => decide +kernel
    | n + 7 => rfl
  intro o i v h
  have h1 := List.all_eq_true.mp (key o) _ (zlk_mem _ _ _ h)
  simpa using h1
def zlit (n : Int) : Int32 := match n with
  | .ofNat k => nI k
  | .negSucc k => -(nI (k + 1))
theorem zlit_ok (n : Int) : Int32.ofInt n = zlit n := by
  cases n with
  | ofNat k => rfl
  | negSucc k =>
    apply Int32.toBitVec_inj.mp
    show BitVec.ofInt 32 (Int.negSucc k) = -(BitVec.ofNat 32 (k + 1))
    rw [Int.negSucc_eq, BitVec.ofInt_neg]
    congr 1
/-- instructions in normal form: numbered locals, all small constants alike, absolute targets -/
def znorm (pc : Nat) (j : Instr) : Instr := match j with
  | .iload_n k => .iload k.val
  | .lload_n k => .lload k.val
  | .aload_n k => .aload k.val
  | .istore_n k => .istore k.val
  | .lstore_n k => .lstore k.val
  | .astore_n k => .astore k.val
  | .bipush n => if (Int8.ofInt n).toInt32 = zlit n then .iconst n else .nop
  | .sipush n => if (Int16.ofInt n).toInt32 = zlit n then .iconst n else .nop
  | .goto off => if 0 ≤ (pc : Int) + off then .goto ((pc : Int) + off) else .nop
  | .ifCond c off => if 0 ≤ (pc : Int) + off then .ifCond c ((pc : Int) + off) else .nop
  | .if_icmp c off => if 0 ≤ (pc : Int) + off then .if_icmp c ((pc : Int) + off) else .nop
  | j => j
def zlen (n : Nat) (j : Instr) : Nat := match j with
  | .bipush _ => 2
  | .sipush _ => 3
  | .iload _ => 2
  | .lload _ => 2
  | .aload _ => 2
  | .istore _ => 2
  | .lstore _ => 2
  | .astore _ => 2
  | .iinc _ _ => 3
  | .ldc _ => 2
  | .ldc_w _ => 3
  | .ldc2_w _ => 3
  | .getfield _ => 3
  | .putfield _ => 3
  | .getstatic _ => 3
  | .goto _ => 3
  | .ifCond _ _ => 3
  | .if_icmp _ _ => 3
  | .invokevirtual _ => 3
  | .invokespecial _ => 3
  | .invokestatic _ => 3
  | .new _ => 3
  | .anewarray _ => 3
  | .newarray _ => 2
  | .tableswitch _ _ _ _ => n
  | .lookupswitch _ _ => n
  | _ => 1
/-! patterns of the stack, of locals, of cells -/
def zI1 (st : List Value) (f : Int32 → List Value → Prop) : Prop := match st with
  | .int x :: r => f x r
  | _ => False
theorem zI1_inv {st : List Value} {f : Int32 → List Value → Prop} (h : zI1 st f) : ∃ x r, st = .int x :: r ∧ f x r := by
  unfold zI1 at h
  split at h
  · exact ⟨_, _, rfl, h⟩
  · exact h.elim
def zL1 (st : List Value) (f : Int64 → List Value → Prop) : Prop := match st with
  | .long x :: r => f x r
  | _ => False
theorem zL1_inv {st : List Value} {f : Int64 → List Value → Prop} (h : zL1 st f) : ∃ x r, st = .long x :: r ∧ f x r := by
  unfold zL1 at h
  split at h
  · exact ⟨_, _, rfl, h⟩
  · exact h.elim
def zRf (st : List Value) (f : Nat → List Value → Prop) : Prop := match st with
  | .ref x :: r => f x r
  | _ => False
theorem zRf_inv {st : List Value} {f : Nat → List Value → Prop} (h : zRf st f) : ∃ x r, st = .ref x :: r ∧ f x r := by
  unfold zRf at h
  split at h
  · exact ⟨_, _, rfl, h⟩
  · exact h.elim
def zI2 (st : List Value) (f : Int32 → Int32 → List Value → Prop) : Prop := match st with
  | .int y :: .int x :: r => f x y r
  | _ => False
theorem zI2_inv {st : List Value} {f : Int32 → Int32 → List Value → Prop} (h : zI2 st f) : ∃ x y r, st = .int y :: .int x :: r ∧ f x y r := by
  unfold zI2 at h
  split at h
  · exact ⟨_, _, _, rfl, h⟩
  · exact h.elim
def zL2 (st : List Value) (f : Int64 → Int64 → List Value → Prop) : Prop := match st with
  | .long y :: .long x :: r => f x y r
  | _ => False
theorem zL2_inv {st : List Value} {f : Int64 → Int64 → List Value → Prop} (h : zL2 st f) : ∃ x y r, st = .long y :: .long x :: r ∧ f x y r := by
  unfold zL2 at h
  split at h
  · exact ⟨_, _, _, rfl, h⟩
  · exact h.elim
def zLI (st : List Value) (f : Int64 → Int32 → List Value → Prop) : Prop := match st with
  | .int y :: .long x :: r => f x y r
  | _ => False
theorem zLI_inv {st : List Value} {f : Int64 → Int32 → List Value → Prop} (h : zLI st f) : ∃ x y r, st = .int y :: .long x :: r ∧ f x y r := by
  unfold zLI at h
  split at h
  · exact ⟨_, _, _, rfl, h⟩
  · exact h.elim
def zRI (st : List Value) (f : Nat → Int32 → List Value → Prop) : Prop := match st with
  | .int y :: .ref x :: r => f x y r
  | _ => False
theorem zRI_inv {st : List Value} {f : Nat → Int32 → List Value → Prop} (h : zRI st f) : ∃ x y r, st = .int y :: .ref x :: r ∧ f x y r := by
  unfold zRI at h
  split at h
  · exact ⟨_, _, _, rfl, h⟩
  · exact h.elim
def zRV (st : List Value) (f : Nat → Int32 → List Value → Prop) : Prop := match st with
  | .int y :: .ref x :: r => f x y r
  | _ => False
theorem zRV_inv {st : List Value} {f : Nat → Int32 → List Value → Prop} (h : zRV st f) : ∃ x y r, st = .int y :: .ref x :: r ∧ f x y r := by
  unfold zRV at h
  split at h
  · exact ⟨_, _, _, rfl, h⟩
  · exact h.elim
def zRIV (st : List Value) (f : Nat → Int32 → Int32 → List Value → Prop) : Prop := match st with
  | .int y :: .int i :: .ref x :: r => f x i y r
  | _ => False
theorem zRIV_inv {st : List Value} {f : Nat → Int32 → Int32 → List Value → Prop} (h : zRIV st f) : ∃ x i y r, st = .int y :: .int i :: .ref x :: r ∧ f x i y r := by
  unfold zRIV at h
  split at h
  · exact ⟨_, _, _, _, rfl, h⟩
  · exact h.elim
def zc1 (v : Value) : Bool := match v with
  | .long _ => false
  | .double _ => false
  | _ => true
theorem zc1_ok {v : Value} (h : zc1 v = true) (ad : Nat → Nat) : (zv ad v).category = 1 := by
  cases v <;> first | rfl | cases h
def zbr (b : Bool) (P : Prop) : Prop := match b with
  | true => P
  | false => False
theorem zbr_inv {b : Bool} {P : Prop} (h : zbr b P) : b = true ∧ P := by
  cases b with
  | true => exact ⟨rfl, h⟩
  | false => exact h.elim
def zV1 (st : List Value) (f : Value → List Value → Prop) : Prop := match st with
  | v :: r => zbr (zc1 v) (f v r)
  | _ => False
theorem zV1_inv {st : List Value} {f : Value → List Value → Prop} (h : zV1 st f) : ∃ v r, st = v :: r ∧ zc1 v = true ∧ f v r := by
  unfold zV1 at h
  split at h
  · exact ⟨_, _, rfl, (zbr_inv h).1, (zbr_inv h).2⟩
  · exact h.elim
def zV2 (st : List Value) (f : Value → Value → List Value → Prop) : Prop := match st with
  | v :: w :: r => zbr (zc1 v && zc1 w) (f v w r)
  | _ => False
theorem zV2_inv {st : List Value} {f : Value → Value → List Value → Prop} (h : zV2 st f) : ∃ v w r, st = v :: w :: r ∧ zc1 v = true ∧ zc1 w = true ∧ f v w r := by
  unfold zV2 at h
  split at h
  · have h1 := zbr_inv h
    have h2 := Bool.and_eq_true_iff.mp h1.1
    exact ⟨_, _, _, rfl, h2.1, h2.2, h1.2⟩
  · exact h.elim
def zIL (ls : List (Option Value)) (j : Nat) (f : Int32 → Prop) : Prop := match zg ls j with
  | some (some (.int x)) => f x
  | _ => False
theorem zIL_inv {ls : List (Option Value)} {j : Nat} {f : Int32 → Prop} (h : zIL ls j f) : ∃ x, ls[j]? = some (some (.int x)) ∧ f x := by
  unfold zIL at h
  split at h
  · rename_i x e
    exact ⟨x, by rw [← zg_eq]; exact e, h⟩
  · exact h.elim
def zLL (ls : List (Option Value)) (j : Nat) (f : Int64 → Prop) : Prop := match zg ls j with
  | some (some (.long x)) => f x
  | _ => False
theorem zLL_inv {ls : List (Option Value)} {j : Nat} {f : Int64 → Prop} (h : zLL ls j f) : ∃ x, ls[j]? = some (some (.long x)) ∧ f x := by
  unfold zLL at h
  split at h
  · rename_i x e
    exact ⟨x, by rw [← zg_eq]; exact e, h⟩
  · exact h.elim
def zAL (ls : List (Option Value)) (j : Nat) (f : Nat → Prop) : Prop := match zg ls j with
  | some (some (.ref x)) => f x
  | _ => False
theorem zAL_inv {ls : List (Option Value)} {j : Nat} {f : Nat → Prop} (h : zAL ls j f) : ∃ x, ls[j]? = some (some (.ref x)) ∧ f x := by
  unfold zAL at h
  split at h
  · rename_i x e
    exact ⟨x, by rw [← zg_eq]; exact e, h⟩
  · exact h.elim
def zArr (h : List ZC) (a t : Nat) (f : Nat → (Nat → Int32) → Prop) : Prop := match zg h a with
  | some (.inl x) => zbr (Nat.beq x.1 t) (f x.2.1 x.2.2)
  | _ => False
theorem zArr_inv {h : List ZC} {a t : Nat} {f : Nat → (Nat → Int32) → Prop} (hz : zArr h a t f) : ∃ n g, h[a]? = some (.inl (t, n, g)) ∧ f n g := by
  unfold zArr at hz
  split at hz
  · rename_i x e
    obtain ⟨h1, h2⟩ := zbr_inv hz
    have e2 := Nat.eq_of_beq_eq_true h1
    refine ⟨x.2.1, x.2.2, ?_, h2⟩
    rw [← zg_eq, e, ← e2]
  · exact hz.elim
def zObj (h : List ZC) (a ci : Nat) (f : List Value → Prop) : Prop := match zg h a with
  | some (.inr (.inl x)) => zbr (Nat.beq x.1 ci) (f x.2)
  | _ => False
theorem zObj_inv {h : List ZC} {a ci : Nat} {f : List Value → Prop} (hz : zObj h a ci f) : ∃ fs, h[a]? = some (.inr (.inl (ci, fs))) ∧ f fs := by
  unfold zObj at hz
  split at hz
  · rename_i x e
    obtain ⟨h1, h2⟩ := zbr_inv hz
    have e2 := Nat.eq_of_beq_eq_true h1
    refine ⟨x.2, ?_, h2⟩
    rw [← zg_eq, e, ← e2]
  · exact hz.elim
def zRef (h : List ZC) (a : Nat) (f : Nat → (Nat → Option Nat) → Prop) : Prop := match zg h a with
  | some (.inr (.inr x)) => f x.1 x.2
  | _ => False
theorem zRef_inv {h : List ZC} {a : Nat} {f : Nat → (Nat → Option Nat) → Prop} (hz : zRef h a f) : ∃ n g, h[a]? = some (.inr (.inr (n, g))) ∧ f n g := by
  unfold zRef at hz
  split at hz
  · rename_i x e
    exact ⟨x.1, x.2, by rw [← zg_eq, e], hz⟩
  · exact hz.elim
def zSo {α : Type} (o : Option α) (f : α → Prop) : Prop := match o with
  | some x => f x
  | none => False
theorem zSo_inv {α : Type} {o : Option α} {f : α → Prop} (h : zSo o f) : ∃ x, o = some x ∧ f x := by
  cases o with
  | none => exact h.elim
  | some x => exact ⟨x, rfl, h⟩
def zE1 (st : List Value) (f : Int32 → Prop) : Prop := match st with
  | [.int x] => f x
  | _ => False
theorem zE1_inv {st : List Value} {f : Int32 → Prop} (h : zE1 st f) : ∃ x, st = [.int x] ∧ f x := by
  unfold zE1 at h
  split at h
  · exact ⟨_, rfl, h⟩
  · exact h.elim
def zE0 (st : List Value) (f : Prop) : Prop := match st with
  | [] => f
  | _ => False
theorem zE0_inv {st : List Value} {f : Prop} (h : zE0 st f) : st = [] ∧ f := by
  unfold zE0 at h
  split at h
  · exact ⟨rfl, h⟩
  · exact h.elim
def zushr (x y : Int32) : Int32 := (x.toUInt32 >>> (y.toUInt32 &&& Int32.toUInt32 31)).toInt32
def zlushr (x : Int64) (y : Int32) : Int64 := (x.toUInt64 >>> (y.toInt64.toUInt64 &&& Int64.toUInt64 63)).toInt64
def zi2c (x : Int32) : Int32 := (x.toUInt32 % 65536).toInt32
def zof (o : Option Nat) : Value := match o with
  | some q => .ref q
  | none => .null
abbrev ZK : Type := List (Option Value) → List Value → List ZC → Prop
abbrev ZP : Type := Nat → List (Option Value) → List Value → List ZC → Prop
/-- what must hold so that an instruction in normal form goes on: behind it 'k', at a target 'C', at a return 'R1', 'R0' -/
def zi (own : Nat) (R1 : Int32 → List ZC → Prop) (R0 : List ZC → Prop) (C : ZP) (i : Instr) (ls : List (Option Value)) (st : List Value) (h : List ZC) (k : ZK) : Prop := match i with
  | .iconst n => k ls (.int (zlit n) :: st) h
  | .lconst n => k ls (.long (lN n.val) :: st) h
  | .ldc2_w idx => zSo (zlk (zlo own) idx) (fun v => k ls (.long (lN v) :: st) h)
  | .ldc_w idx => zSo (zlk (zlw own) idx) (fun v => k ls (.int (nI v) :: st) h)
  | .iload j => zIL ls j (fun x => k ls (.int x :: st) h)
  | .lload j => zLL ls j (fun x => k ls (.long x :: st) h)
  | .aload j => zAL ls j (fun x => k ls (.ref x :: st) h)
  | .istore j => zI1 st (fun x r => zbr (Nat.ble (j + 1) ls.length) (k (zst ls j (.int x)) r h))
  | .astore j => zRf st (fun x r => zbr (Nat.ble (j + 1) ls.length) (k (zst ls j (.ref x)) r h))
  | .lstore j => zL1 st (fun x r => zbr (Nat.ble (j + 2) ls.length) (k (zst2 ls j (.long x)) r h))
  | .iinc j n => zIL ls j (fun x => zbr (Nat.ble (j + 1) ls.length) (k (zst ls j (.int (x + zlit n))) st h))
  | .iadd => zI2 st (fun x y r => k ls (.int (x + y) :: r) h)
  | .isub => zI2 st (fun x y r => k ls (.int (x - y) :: r) h)
  | .imul => zI2 st (fun x y r => k ls (.int (x * y) :: r) h)
  | .iand => zI2 st (fun x y r => k ls (.int (x &&& y) :: r) h)
  | .ior => zI2 st (fun x y r => k ls (.int (x ||| y) :: r) h)
  | .idiv => zI2 st (fun x y r => ¬ y = 0 ∧ k ls (.int (x / y) :: r) h)
  | .irem => zI2 st (fun x y r => ¬ y = 0 ∧ k ls (.int (x - x / y * y) :: r) h)
  | .ishl => zI2 st (fun x y r => k ls (.int (x <<< (y &&& 31)) :: r) h)
  | .ishr => zI2 st (fun x y r => k ls (.int (x >>> (y &&& 31)) :: r) h)
  | .iushr => zI2 st (fun x y r => k ls (.int (zushr x y) :: r) h)
  | .ladd => zL2 st (fun x y r => k ls (.long (x + y) :: r) h)
  | .lsub => zL2 st (fun x y r => k ls (.long (x - y) :: r) h)
  | .land => zL2 st (fun x y r => k ls (.long (x &&& y) :: r) h)
  | .lor => zL2 st (fun x y r => k ls (.long (x ||| y) :: r) h)
  | .lcmp => zL2 st (fun x y r => k ls (.int (lg_cmp x y) :: r) h)
  | .lshl => zLI st (fun x y r => k ls (.long (x <<< (y.toInt64 &&& 63)) :: r) h)
  | .lushr => zLI st (fun x y r => k ls (.long (zlushr x y) :: r) h)
  | .i2l => zI1 st (fun x r => k ls (.long x.toInt64 :: r) h)
  | .l2i => zL1 st (fun x r => k ls (.int x.toInt32 :: r) h)
  | .i2c => zI1 st (fun x r => k ls (.int (zi2c x) :: r) h)
  | .dup => zV1 st (fun v r => k ls (v :: v :: r) h)
  | .pop => zV1 st (fun _ r => k ls r h)
  | .dup2 => zV2 st (fun v w r => k ls (v :: w :: v :: w :: r) h)
  | .getfield idx => zSo (zlk (zft own) idx) (fun q => zRf st (fun a r => zObj h a q.1 (fun fs => zSo (zg fs q.2) (fun v => k ls (v :: r) h))))
  | .putfield idx => zSo (zlk (zft own) idx) (fun q => zRV st (fun a x r => zObj h a q.1 (fun fs => zbr (!(zcT q.1 q.2).2.2.2 && Nat.ble (q.2 + 1) fs.length) (k ls r (h.set a (.inr (.inl (q.1, fs.set q.2 (.int x)))))))))
  | .iaload => zRI st (fun a y r => zArr h a 0 (fun n f => vp_in y n ∧ k ls (.int (f y.toNatClampNeg) :: r) h))
  | .caload => zRI st (fun a y r => zArr h a 1 (fun n f => vp_in y n ∧ k ls (.int (f y.toNatClampNeg) :: r) h))
  | .baload => zRI st (fun a y r => zArr h a 2 (fun n f => vp_in y n ∧ k ls (.int (f y.toNatClampNeg) :: r) h))
  | .iastore => zRIV st (fun a y x r => zArr h a 0 (fun n f => vp_in y n ∧ k ls r (h.set a (.inl (0, n, upd f y.toNatClampNeg x)))))
  | .castore => zRIV st (fun a y x r => zArr h a 1 (fun n f => vp_in y n ∧ k ls r (h.set a (.inl (1, n, upd f y.toNatClampNeg (vp_nar .char x))))))
  | .bastore => zRIV st (fun a y x r => zArr h a 2 (fun n f => vp_in y n ∧ k ls r (h.set a (.inl (2, n, upd f y.toNatClampNeg (vp_nar .boolean x))))))
  | .aaload => zRI st (fun a y r => zRef h a (fun n f => vp_in y n ∧ k ls (zof (f y.toNatClampNeg) :: r) h))
  | .ifCond .eq t => zI1 st (fun x r => (x = 0 → C t.toNat ls r h) ∧ (¬ x = 0 → k ls r h))
  | .ifCond .ne t => zI1 st (fun x r => (¬ x = 0 → C t.toNat ls r h) ∧ (x = 0 → k ls r h))
  | .ifCond .lt t => zI1 st (fun x r => (x < 0 → C t.toNat ls r h) ∧ (¬ x < 0 → k ls r h))
  | .ifCond .ge t => zI1 st (fun x r => (0 ≤ x → C t.toNat ls r h) ∧ (¬ 0 ≤ x → k ls r h))
  | .ifCond .gt t => zI1 st (fun x r => (0 < x → C t.toNat ls r h) ∧ (¬ 0 < x → k ls r h))
  | .ifCond .le t => zI1 st (fun x r => (x ≤ 0 → C t.toNat ls r h) ∧ (¬ x ≤ 0 → k ls r h))
  | .if_icmp .eq t => zI2 st (fun x y r => (x = y → C t.toNat ls r h) ∧ (¬ x = y → k ls r h))
  | .if_icmp .ne t => zI2 st (fun x y r => (¬ x = y → C t.toNat ls r h) ∧ (x = y → k ls r h))
  | .if_icmp .lt t => zI2 st (fun x y r => (x < y → C t.toNat ls r h) ∧ (¬ x < y → k ls r h))
  | .if_icmp .ge t => zI2 st (fun x y r => (y ≤ x → C t.toNat ls r h) ∧ (¬ y ≤ x → k ls r h))
  | .if_icmp .gt t => zI2 st (fun x y r => (y < x → C t.toNat ls r h) ∧ (¬ y < x → k ls r h))
  | .if_icmp .le t => zI2 st (fun x y r => (x ≤ y → C t.toNat ls r h) ∧ (¬ x ≤ y → k ls r h))
  | .goto t => C t.toNat ls st h
  | .ireturn => zE1 st (fun x => R1 x h)
  | .return_ => zE0 st (R0 h)
  | _ => False
section ZSEC
variable {p : Program} {l : Launch} {e : Env} {R : Room} {s : State} {m : MethodId} {args : Array Value} {below : List Frame} {meth : Method} {c : Code} {Q : State → Prop}
variable {D : va_G} {cA : Nat → ClassId} {ad : Nat → Nat} {A : Nat → Prop} {cc : ByteArray} {nL own : Nat}
/-- the walk's state over abstract cells -/
def Z (p : Program) (l : Launch) (e : Env) (R : Room) (s : State) (m : MethodId) (args : Array Value) (below : List Frame) (meth : Method) (c : Code) (Q : State → Prop) (D : va_G) (cA : Nat → ClassId) (ad : Nat → Nat) (A : Nat → Prop) : ZP := fun pc ls st h =>
  ∀ (H : Heap) (locs : List Loc) (la : Array Slot), va_P D vwCl (zW cA ad h) H → va_D A (zW cA ad h) → va_S A s.heap H locs → zHas ad la ls → W p l e R s m args below meth c H locs 0 0 Q (F0 m pc la (st.map (zv ad)))
variable {R1 : Int32 → List ZC → Prop} {R0 : List ZC → Prop} {ls : List (Option Value)} {st : List Value} {h : List ZC} {k : ZK}
set_option maxHeartbeats 4000000 in
theorem zi_ok (F : CallFix p m c cc nL s args zt (zcn own)) (hK : va_K D vwCl (zT cA) s)
    (hR1 : ∀ (pc : Nat) (x : Int32) (ls : List (Option Value)) (h : List ZC), decode cc pc = .ok (.ireturn, 1) → R1 x h → Z p l e R s m args below meth c Q D cA ad A pc ls [.int x] h)
    (hR0 : ∀ (pc : Nat) (ls : List (Option Value)) (h : List ZC), decode cc pc = .ok (.return_, 1) → R0 h → Z p l e R s m args below meth c Q D cA ad A pc ls [] h)
    {pc n : Nat} {i j : Instr} (hd : decode cc pc = .ok (j, n)) (hl : n = zlen n j) (hj : znorm pc j = i)
    (hz : zi own R1 R0 (Z p l e R s m args below meth c Q D cA ad A) i ls st h k) (hk : ∀ ls st h, k ls st h → Z p l e R s m args below meth c Q D cA ad A (pc + n) ls st h) : Z p l e R s m args below meth c Q D cA ad A pc ls st h := by
  cases j
  case iconst n =>
    subst hj
    simp only [zlen] at hl; subst hl
    intro H locs la hP hD hS hL
    exact lv_iconst F.1 F.2.1 hd (zlit_ok n) (hk _ _ _ hz H locs la hP hD hS hL)
  case bipush n =>
    simp only [znorm] at hj
    split at hj
    · rename_i hq
      subst hj
      simp only [zlen] at hl; subst hl
      intro H locs la hP hD hS hL
      exact lv_bipush F.1 F.2.1 hd hq (hk _ _ _ hz H locs la hP hD hS hL)
    · subst hj
      exact hz.elim
  case sipush n =>
    simp only [znorm] at hj
    split at hj
    · rename_i hq
      subst hj
      simp only [zlen] at hl; subst hl
      intro H locs la hP hD hS hL
      exact lv_sipush F.1 F.2.1 hd hq (hk _ _ _ hz H locs la hP hD hS hL)
    · subst hj
      exact hz.elim
  case lconst n =>
    subst hj
    simp only [zlen] at hl; subst hl
    intro H locs la hP hD hS hL
    exact lv_lconst F.1 F.2.1 hd rfl (hk _ _ _ hz H locs la hP hD hS hL)
  case ldc2_w idx =>
    subst hj
    simp only [zlen] at hl; subst hl
    obtain ⟨v, hv, hz1⟩ := zSo_inv hz
    intro H locs la hP hD hS hL
    exact lv_ldc2 F.1 F.2.1 F.2.2.2.1 (F.2.2.2.2 _ (zl_ok _ _ _ hv)) hd (hk _ _ _ hz1 H locs la hP hD hS hL)
  case ldc_w idx =>
    subst hj
    simp only [zlen] at hl; subst hl
    obtain ⟨v, hv, hz1⟩ := zSo_inv hz
    intro H locs la hP hD hS hL
    exact lv_ldcw F.1 F.2.1 F.2.2.2.1 (F.2.2.2.2 _ (zw_ok _ _ _ hv)) hd (hk _ _ _ hz1 H locs la hP hD hS hL)
  case iload j =>
    subst hj
    simp only [zlen] at hl; subst hl
    obtain ⟨x, hx, hz1⟩ := zIL_inv hz
    intro H locs la hP hD hS hL
    exact lv_iload F.1 F.2.1 hd (hL.2.2 _ _ hx) (hk _ _ _ hz1 H locs la hP hD hS hL)
  case iload_n j =>
    subst hj
    simp only [zlen] at hl; subst hl
    obtain ⟨x, hx, hz1⟩ := zIL_inv hz
    intro H locs la hP hD hS hL
    exact lv_iload_n F.1 F.2.1 hd rfl (hL.2.2 _ _ hx) (hk _ _ _ hz1 H locs la hP hD hS hL)
  case lload j =>
    subst hj
    simp only [zlen] at hl; subst hl
    obtain ⟨x, hx, hz1⟩ := zLL_inv hz
    intro H locs la hP hD hS hL
    exact lv_lload F.1 F.2.1 hd (hL.2.2 _ _ hx) (hk _ _ _ hz1 H locs la hP hD hS hL)
  case lload_n j =>
    subst hj
    simp only [zlen] at hl; subst hl
    obtain ⟨x, hx, hz1⟩ := zLL_inv hz
    intro H locs la hP hD hS hL
    exact lv_lload_n F.1 F.2.1 hd rfl (hL.2.2 _ _ hx) (hk _ _ _ hz1 H locs la hP hD hS hL)
  case aload j =>
    subst hj
    simp only [zlen] at hl; subst hl
    obtain ⟨x, hx, hz1⟩ := zAL_inv hz
    intro H locs la hP hD hS hL
    exact lv_aload F.1 F.2.1 hd (hL.2.2 _ _ hx) (hk _ _ _ hz1 H locs la hP hD hS hL)
  case aload_n j =>
    subst hj
    simp only [zlen] at hl; subst hl
    obtain ⟨x, hx, hz1⟩ := zAL_inv hz
    intro H locs la hP hD hS hL
    exact lv_aload_n F.1 F.2.1 hd rfl (hL.2.2 _ _ hx) (hk _ _ _ hz1 H locs la hP hD hS hL)
  case istore j =>
    subst hj
    simp only [zlen] at hl; subst hl
    obtain ⟨x, r, rfl, hz1⟩ := zI1_inv hz
    obtain ⟨hb, hz2⟩ := zbr_inv hz1
    intro H locs la hP hD hS hL
    exact lv_istore F.1 F.2.1 hd (zHas_lv hL) (Nat.le_of_ble_eq_true hb) rfl (fun ls2 h2 => hk _ _ _ hz2 H locs ls2 hP hD hS (zHas_st h2))
  case istore_n j =>
    subst hj
    simp only [zlen] at hl; subst hl
    obtain ⟨x, r, rfl, hz1⟩ := zI1_inv hz
    obtain ⟨hb, hz2⟩ := zbr_inv hz1
    intro H locs la hP hD hS hL
    exact lv_istore_n F.1 F.2.1 hd rfl (zHas_lv hL) (Nat.le_of_ble_eq_true hb) rfl (fun ls2 h2 => hk _ _ _ hz2 H locs ls2 hP hD hS (zHas_st h2))
  case astore j =>
    subst hj
    simp only [zlen] at hl; subst hl
    obtain ⟨x, r, rfl, hz1⟩ := zRf_inv hz
    obtain ⟨hb, hz2⟩ := zbr_inv hz1
    intro H locs la hP hD hS hL
    exact lv_astore F.1 F.2.1 hd (zHas_lv hL) (Nat.le_of_ble_eq_true hb) rfl (fun ls2 h2 => hk _ _ _ hz2 H locs ls2 hP hD hS (zHas_st h2))
  case astore_n j =>
    subst hj
    simp only [zlen] at hl; subst hl
    obtain ⟨x, r, rfl, hz1⟩ := zRf_inv hz
    obtain ⟨hb, hz2⟩ := zbr_inv hz1
    intro H locs la hP hD hS hL
    exact lv_astore_n F.1 F.2.1 hd rfl (zHas_lv hL) (Nat.le_of_ble_eq_true hb) rfl (fun ls2 h2 => hk _ _ _ hz2 H locs ls2 hP hD hS (zHas_st h2))
  case lstore j =>
    subst hj
    simp only [zlen] at hl; subst hl
    obtain ⟨x, r, rfl, hz1⟩ := zL1_inv hz
    obtain ⟨hb, hz2⟩ := zbr_inv hz1
    intro H locs la hP hD hS hL
    exact lv_lstore F.1 F.2.1 hd (zHas_lv hL) (Nat.le_of_ble_eq_true hb) rfl (fun ls2 h2 => hk _ _ _ hz2 H locs ls2 hP hD hS (zHas_st2 h2))
  case lstore_n j =>
    subst hj
    simp only [zlen] at hl; subst hl
    obtain ⟨x, r, rfl, hz1⟩ := zL1_inv hz
    obtain ⟨hb, hz2⟩ := zbr_inv hz1
    intro H locs la hP hD hS hL
    exact lv_lstore_n F.1 F.2.1 hd rfl (zHas_lv hL) (Nat.le_of_ble_eq_true hb) rfl (fun ls2 h2 => hk _ _ _ hz2 H locs ls2 hP hD hS (zHas_st2 h2))
  case iinc j n =>
    subst hj
    simp only [zlen] at hl; subst hl
    obtain ⟨x, hx, hz1⟩ := zIL_inv hz
    obtain ⟨hb, hz2⟩ := zbr_inv hz1
    intro H locs la hP hD hS hL
    obtain ⟨q, hq⟩ := List.getElem?_of_mem (zLs_mem (ad := ad) (ls := ls) (q := (j, .int x)) |>.mpr ⟨.int x, hx, rfl⟩)
    exact lv_iinc F.1 F.2.1 hd (zHas_lv hL) hq (by rw [zlit_ok]) (Nat.le_of_ble_eq_true hb) rfl (fun ls2 h2 => hk _ _ _ hz2 H locs ls2 hP hD hS (zHas_st h2))
  case iadd =>
    subst hj
    simp only [zlen] at hl; subst hl
    obtain ⟨x, y, r, rfl, hz1⟩ := zI2_inv hz
    intro H locs la hP hD hS hL
    exact lv_iadd F.1 F.2.1 hd (hk _ _ _ hz1 H locs la hP hD hS hL)
  case isub =>
    subst hj
    simp only [zlen] at hl; subst hl
    obtain ⟨x, y, r, rfl, hz1⟩ := zI2_inv hz
    intro H locs la hP hD hS hL
    exact lv_isub F.1 F.2.1 hd (hk _ _ _ hz1 H locs la hP hD hS hL)
  case imul =>
    subst hj
    simp only [zlen] at hl; subst hl
    obtain ⟨x, y, r, rfl, hz1⟩ := zI2_inv hz
    intro H locs la hP hD hS hL
    exact lv_imul F.1 F.2.1 hd (hk _ _ _ hz1 H locs la hP hD hS hL)
  case iand =>
    subst hj
    simp only [zlen] at hl; subst hl
    obtain ⟨x, y, r, rfl, hz1⟩ := zI2_inv hz
    intro H locs la hP hD hS hL
    exact lv_iand F.1 F.2.1 hd (hk _ _ _ hz1 H locs la hP hD hS hL)
  case ior =>
    subst hj
    simp only [zlen] at hl; subst hl
    obtain ⟨x, y, r, rfl, hz1⟩ := zI2_inv hz
    intro H locs la hP hD hS hL
    exact lv_ior F.1 F.2.1 hd (hk _ _ _ hz1 H locs la hP hD hS hL)
  case ishl =>
    subst hj
    simp only [zlen] at hl; subst hl
    obtain ⟨x, y, r, rfl, hz1⟩ := zI2_inv hz
    intro H locs la hP hD hS hL
    exact lv_ishl F.1 F.2.1 hd (hk _ _ _ hz1 H locs la hP hD hS hL)
  case ishr =>
    subst hj
    simp only [zlen] at hl; subst hl
    obtain ⟨x, y, r, rfl, hz1⟩ := zI2_inv hz
    intro H locs la hP hD hS hL
    exact lv_ishr F.1 F.2.1 hd (hk _ _ _ hz1 H locs la hP hD hS hL)
  case idiv =>
    subst hj
    simp only [zlen] at hl; subst hl
    obtain ⟨x, y, r, rfl, h0, hz1⟩ := zI2_inv hz
    intro H locs la hP hD hS hL
    exact lv_idiv F.1 F.2.1 hd h0 (hk _ _ _ hz1 H locs la hP hD hS hL)
  case irem =>
    subst hj
    simp only [zlen] at hl; subst hl
    obtain ⟨x, y, r, rfl, h0, hz1⟩ := zI2_inv hz
    intro H locs la hP hD hS hL
    exact lv_irem F.1 F.2.1 hd h0 (hk _ _ _ hz1 H locs la hP hD hS hL)
  case iushr =>
    subst hj
    simp only [zlen] at hl; subst hl
    obtain ⟨x, y, r, rfl, hz1⟩ := zI2_inv hz
    intro H locs la hP hD hS hL
    exact lv_iushr F.1 F.2.1 hd rfl (hk _ _ _ hz1 H locs la hP hD hS hL)
  case ladd =>
    subst hj
    simp only [zlen] at hl; subst hl
    obtain ⟨x, y, r, rfl, hz1⟩ := zL2_inv hz
    intro H locs la hP hD hS hL
    exact lv_ladd F.1 F.2.1 hd (hk _ _ _ hz1 H locs la hP hD hS hL)
  case lsub =>
    subst hj
    simp only [zlen] at hl; subst hl
    obtain ⟨x, y, r, rfl, hz1⟩ := zL2_inv hz
    intro H locs la hP hD hS hL
    exact lv_lsub F.1 F.2.1 hd (hk _ _ _ hz1 H locs la hP hD hS hL)
  case land =>
    subst hj
    simp only [zlen] at hl; subst hl
    obtain ⟨x, y, r, rfl, hz1⟩ := zL2_inv hz
    intro H locs la hP hD hS hL
    exact lv_land F.1 F.2.1 hd (hk _ _ _ hz1 H locs la hP hD hS hL)
  case lor =>
    subst hj
    simp only [zlen] at hl; subst hl
    obtain ⟨x, y, r, rfl, hz1⟩ := zL2_inv hz
    intro H locs la hP hD hS hL
    exact lv_lor F.1 F.2.1 hd (hk _ _ _ hz1 H locs la hP hD hS hL)
  case lcmp =>
    subst hj
    simp only [zlen] at hl; subst hl
    obtain ⟨x, y, r, rfl, hz1⟩ := zL2_inv hz
    intro H locs la hP hD hS hL
    exact W.lcmp F.1 F.2.1 hd (hk _ _ _ hz1 H locs la hP hD hS hL)
  case lshl =>
    subst hj
    simp only [zlen] at hl; subst hl
    obtain ⟨x, y, r, rfl, hz1⟩ := zLI_inv hz
    intro H locs la hP hD hS hL
    exact lv_lshl F.1 F.2.1 hd rfl (hk _ _ _ hz1 H locs la hP hD hS hL)
  case lushr =>
    subst hj
    simp only [zlen] at hl; subst hl
    obtain ⟨x, y, r, rfl, hz1⟩ := zLI_inv hz
    intro H locs la hP hD hS hL
    exact lv_lushr F.1 F.2.1 hd rfl (hk _ _ _ hz1 H locs la hP hD hS hL)
  case i2l =>
    subst hj
    simp only [zlen] at hl; subst hl
    obtain ⟨x, r, rfl, hz1⟩ := zI1_inv hz
    intro H locs la hP hD hS hL
    exact lv_i2l F.1 F.2.1 hd rfl (hk _ _ _ hz1 H locs la hP hD hS hL)
  case l2i =>
    subst hj
    simp only [zlen] at hl; subst hl
    obtain ⟨x, r, rfl, hz1⟩ := zL1_inv hz
    intro H locs la hP hD hS hL
    exact lv_l2i F.1 F.2.1 hd rfl (hk _ _ _ hz1 H locs la hP hD hS hL)
  case i2c =>
    subst hj
    simp only [zlen] at hl; subst hl
    obtain ⟨x, r, rfl, hz1⟩ := zI1_inv hz
    intro H locs la hP hD hS hL
    exact lv_i2c F.1 F.2.1 hd rfl (hk _ _ _ hz1 H locs la hP hD hS hL)
  case dup =>
    subst hj
    simp only [zlen] at hl; subst hl
    obtain ⟨v, r, rfl, hc, hz1⟩ := zV1_inv hz
    intro H locs la hP hD hS hL
    exact lv_dup F.1 F.2.1 hd (zc1_ok hc ad) (hk _ _ _ hz1 H locs la hP hD hS hL)
  case pop =>
    subst hj
    simp only [zlen] at hl; subst hl
    obtain ⟨v, r, rfl, hc, hz1⟩ := zV1_inv hz
    intro H locs la hP hD hS hL
    exact lv_pop F.1 F.2.1 hd (zc1_ok hc ad) (hk _ _ _ hz1 H locs la hP hD hS hL)
  case dup2 =>
    subst hj
    simp only [zlen] at hl; subst hl
    obtain ⟨v, w, r, rfl, hc, hc2, hz1⟩ := zV2_inv hz
    intro H locs la hP hD hS hL
    exact lv_dup2_11 F.1 F.2.1 hd (zc1_ok hc ad) (zc1_ok hc2 ad) (hk _ _ _ hz1 H locs la hP hD hS hL)
  case getfield idx =>
    subst hj
    simp only [zlen] at hl; subst hl
    obtain ⟨q, hq, hz1⟩ := zSo_inv hz
    obtain ⟨a, r, rfl, hz2⟩ := zRf_inv hz1
    obtain ⟨fs, ho, hz3⟩ := zObj_inv hz2
    obtain ⟨v, hv, hz4⟩ := zSo_inv hz3
    rw [zg_eq] at hv
    obtain ⟨g1, g2, g3, g4⟩ := zf_ok (ci := q.1) (k := q.2) hq
    intro H locs la hP hD hS hL
    exact va_get F.1 F.2.1 F.2.2.2.2 (zc_ws _ g1) F.2.2.2.1 hK hP a (zW_get ho) (zc_cl _ g1) q.2 g2 (F.2.2.2.2 _ g3) (fun _ hx => by rw [g4] at hx; exact hx) (show (fs.map (zv ad))[q.2]? = some (zv ad v) by simp [hv]) hd (hk _ _ _ hz4 H locs la hP hD hS hL)
  case putfield idx =>
    subst hj
    simp only [zlen] at hl; subst hl
    obtain ⟨q, hq, hz1⟩ := zSo_inv hz
    obtain ⟨a, x, r, rfl, hz2⟩ := zRV_inv hz1
    obtain ⟨fs, ho, hz3⟩ := zObj_inv hz2
    obtain ⟨hb, hz4⟩ := zbr_inv hz3
    obtain ⟨hb1, hb2⟩ := Bool.and_eq_true_iff.mp hb
    have hb1 : (zcT q.1 q.2).2.2.2 = false := by simpa using hb1
    have hb2 := Nat.le_of_ble_eq_true hb2
    obtain ⟨g1, g2, g3, g4⟩ := zf_ok (ci := q.1) (k := q.2) hq
    intro H locs la hP hD hS hL
    refine va_put F.1 F.2.1 F.2.2.2.2 (zc_ws _ g1) (zcty q.1) (zc_ty _ g1) (zc_nm _ g1) F.2.2.2.1 hK hP hD hS a (zW_get ho) (zc_cl _ g1) q.2 g2 (F.2.2.2.2 _ g3) (fun _ hx => by rw [g4] at hx; exact hx) hb1 (zc_int _ g1 _ g2 hb1) rfl rfl (by rw [List.length_map]; exact hb2) hd (fun H1 locs1 hP1 hD1 hS1 => ?_)
    have e1 : (zW cA ad h).set a (ad a, .inr (q.1, (fs.map (zv ad)).set q.2 (.int x))) = zW cA ad (h.set a (.inr (.inl (q.1, fs.set q.2 (.int x))))) := by
      rw [← zW_set]
      simp [zce, List.map_set, zv]
    exact hk _ _ _ hz4 H1 locs1 la (by rw [← e1]; exact hP1) (by rw [← e1]; exact hD1) hS1 hL
  case iaload =>
    subst hj
    simp only [zlen] at hl; subst hl
    obtain ⟨a, y, r, rfl, hz1⟩ := zRI_inv hz
    obtain ⟨n, f, ho, hin, hz2⟩ := zArr_inv hz1
    intro H locs la hP hD hS hL
    exact va_iald F.1 F.2.1 hK hP a 0 (zW_get ho) rfl hin hd (hk _ _ _ hz2 H locs la hP hD hS hL)
  case caload =>
    subst hj
    simp only [zlen] at hl; subst hl
    obtain ⟨a, y, r, rfl, hz1⟩ := zRI_inv hz
    obtain ⟨n, f, ho, hin, hz2⟩ := zArr_inv hz1
    intro H locs la hP hD hS hL
    exact va_cald F.1 F.2.1 hK hP a 1 (zW_get ho) rfl hin hd (hk _ _ _ hz2 H locs la hP hD hS hL)
  case baload =>
    subst hj
    simp only [zlen] at hl; subst hl
    obtain ⟨a, y, r, rfl, hz1⟩ := zRI_inv hz
    obtain ⟨n, f, ho, hin, hz2⟩ := zArr_inv hz1
    intro H locs la hP hD hS hL
    exact va_zald F.1 F.2.1 hK hP a 2 (zW_get ho) rfl hin hd (hk _ _ _ hz2 H locs la hP hD hS hL)
  case iastore =>
    subst hj
    simp only [zlen] at hl; subst hl
    obtain ⟨a, y, x, r, rfl, hz1⟩ := zRIV_inv hz
    obtain ⟨n, f, ho, hin, hz2⟩ := zArr_inv hz1
    intro H locs la hP hD hS hL
    refine va_iast F.1 F.2.1 hK hP hD hS a 0 (zW_get ho) rfl hin hd (fun H1 locs1 hP1 hD1 hS1 => ?_)
    have e1 : (zW cA ad h).set a (ad a, .inl (cA 0, n, .inl (upd f y.toNatClampNeg x))) = zW cA ad (h.set a (.inl (0, n, upd f y.toNatClampNeg x))) := by
      rw [← zW_set]
      rfl
    rw [e1] at hP1 hD1
    exact hk _ _ _ hz2 H1 locs1 la hP1 hD1 hS1 hL
  case castore =>
    subst hj
    simp only [zlen] at hl; subst hl
    obtain ⟨a, y, x, r, rfl, hz1⟩ := zRIV_inv hz
    obtain ⟨n, f, ho, hin, hz2⟩ := zArr_inv hz1
    intro H locs la hP hD hS hL
    refine va_cast F.1 F.2.1 hK hP hD hS a 1 (zW_get ho) rfl hin hd (fun H1 locs1 hP1 hD1 hS1 => ?_)
    have e1 : (zW cA ad h).set a (ad a, .inl (cA 1, n, .inl (upd f y.toNatClampNeg (vp_nar .char x)))) = zW cA ad (h.set a (.inl (1, n, upd f y.toNatClampNeg (vp_nar .char x)))) := by
      rw [← zW_set]
      rfl
    rw [e1] at hP1 hD1
    exact hk _ _ _ hz2 H1 locs1 la hP1 hD1 hS1 hL
  case bastore =>
    subst hj
    simp only [zlen] at hl; subst hl
    obtain ⟨a, y, x, r, rfl, hz1⟩ := zRIV_inv hz
    obtain ⟨n, f, ho, hin, hz2⟩ := zArr_inv hz1
    intro H locs la hP hD hS hL
    refine va_zast F.1 F.2.1 hK hP hD hS a 2 (zW_get ho) rfl hin hd (fun H1 locs1 hP1 hD1 hS1 => ?_)
    have e1 : (zW cA ad h).set a (ad a, .inl (cA 2, n, .inl (upd f y.toNatClampNeg (vp_nar .boolean x)))) = zW cA ad (h.set a (.inl (2, n, upd f y.toNatClampNeg (vp_nar .boolean x)))) := by
      rw [← zW_set]
      rfl
    rw [e1] at hP1 hD1
    exact hk _ _ _ hz2 H1 locs1 la hP1 hD1 hS1 hL
  case aaload =>
    subst hj
    simp only [zlen] at hl; subst hl
    obtain ⟨a, y, r, rfl, hz1⟩ := zRI_inv hz
    obtain ⟨n, f, ho, hin, hz2⟩ := zRef_inv hz1
    intro H locs la hP hD hS hL
    have e1 : va_rf ((f y.toNatClampNeg).map ad) = zv ad (zof (f y.toNatClampNeg)) := by cases f y.toNatClampNeg <;> rfl
    refine va_aldq F.1 F.2.1 hK hP a 3 (zW_get ho) rfl hin hd ?_
    rw [e1]
    exact hk _ _ _ hz2 H locs la hP hD hS hL
  case ifCond cd off =>
    simp only [znorm] at hj
    split at hj
    · rename_i hq
      subst hj
      simp only [zlen] at hl; subst hl
      have hq' : (pc : Int) + off = (((pc : Int) + off).toNat : Int) := (Int.toNat_of_nonneg hq).symm
      cases cd with
      | eq =>
        obtain ⟨x, r, rfl, h1, h2⟩ := zI1_inv hz
        intro H locs la hP hD hS hL
        exact lv_if_eq F.1 F.2.1 hd hq' (fun q => h1 q H locs la hP hD hS hL) (fun q => hk _ _ _ (h2 q) H locs la hP hD hS hL)
      | ne =>
        obtain ⟨x, r, rfl, h1, h2⟩ := zI1_inv hz
        intro H locs la hP hD hS hL
        exact lv_if_ne F.1 F.2.1 hd hq' (fun q => h1 q H locs la hP hD hS hL) (fun q => hk _ _ _ (h2 q) H locs la hP hD hS hL)
      | lt =>
        obtain ⟨x, r, rfl, h1, h2⟩ := zI1_inv hz
        intro H locs la hP hD hS hL
        exact lv_if_lt F.1 F.2.1 hd hq' (fun q => h1 q H locs la hP hD hS hL) (fun q => hk _ _ _ (h2 q) H locs la hP hD hS hL)
      | ge =>
        obtain ⟨x, r, rfl, h1, h2⟩ := zI1_inv hz
        intro H locs la hP hD hS hL
        exact lv_if_ge F.1 F.2.1 hd hq' (fun q => h1 q H locs la hP hD hS hL) (fun q => hk _ _ _ (h2 q) H locs la hP hD hS hL)
      | gt =>
        obtain ⟨x, r, rfl, h1, h2⟩ := zI1_inv hz
        intro H locs la hP hD hS hL
        exact lv_if_gt F.1 F.2.1 hd hq' (fun q => h1 q H locs la hP hD hS hL) (fun q => hk _ _ _ (h2 q) H locs la hP hD hS hL)
      | le =>
        obtain ⟨x, r, rfl, h1, h2⟩ := zI1_inv hz
        intro H locs la hP hD hS hL
        exact lv_if_le F.1 F.2.1 hd hq' (fun q => h1 q H locs la hP hD hS hL) (fun q => hk _ _ _ (h2 q) H locs la hP hD hS hL)
    · subst hj
      exact hz.elim
  case if_icmp cd off =>
    simp only [znorm] at hj
    split at hj
    · rename_i hq
      subst hj
      simp only [zlen] at hl; subst hl
      have hq' : (pc : Int) + off = (((pc : Int) + off).toNat : Int) := (Int.toNat_of_nonneg hq).symm
      cases cd with
      | eq =>
        obtain ⟨x, y, r, rfl, h1, h2⟩ := zI2_inv hz
        intro H locs la hP hD hS hL
        exact lv_icmp_eq F.1 F.2.1 hd hq' (fun q => h1 q H locs la hP hD hS hL) (fun q => hk _ _ _ (h2 q) H locs la hP hD hS hL)
      | ne =>
        obtain ⟨x, y, r, rfl, h1, h2⟩ := zI2_inv hz
        intro H locs la hP hD hS hL
        exact lv_icmp_ne F.1 F.2.1 hd hq' (fun q => h1 q H locs la hP hD hS hL) (fun q => hk _ _ _ (h2 q) H locs la hP hD hS hL)
      | lt =>
        obtain ⟨x, y, r, rfl, h1, h2⟩ := zI2_inv hz
        intro H locs la hP hD hS hL
        exact lv_icmp_lt F.1 F.2.1 hd hq' (fun q => h1 q H locs la hP hD hS hL) (fun q => hk _ _ _ (h2 q) H locs la hP hD hS hL)
      | ge =>
        obtain ⟨x, y, r, rfl, h1, h2⟩ := zI2_inv hz
        intro H locs la hP hD hS hL
        exact lv_icmp_ge F.1 F.2.1 hd hq' (fun q => h1 q H locs la hP hD hS hL) (fun q => hk _ _ _ (h2 q) H locs la hP hD hS hL)
      | gt =>
        obtain ⟨x, y, r, rfl, h1, h2⟩ := zI2_inv hz
        intro H locs la hP hD hS hL
        exact lv_icmp_gt F.1 F.2.1 hd hq' (fun q => h1 q H locs la hP hD hS hL) (fun q => hk _ _ _ (h2 q) H locs la hP hD hS hL)
      | le =>
        obtain ⟨x, y, r, rfl, h1, h2⟩ := zI2_inv hz
        intro H locs la hP hD hS hL
        exact lv_icmp_le F.1 F.2.1 hd hq' (fun q => h1 q H locs la hP hD hS hL) (fun q => hk _ _ _ (h2 q) H locs la hP hD hS hL)
    · subst hj
      exact hz.elim
  case goto off =>
    simp only [znorm] at hj
    split at hj
    · rename_i hq
      subst hj
      simp only [zlen] at hl; subst hl
      have hq' : (pc : Int) + off = (((pc : Int) + off).toNat : Int) := (Int.toNat_of_nonneg hq).symm
      intro H locs la hP hD hS hL
      exact lv_goto F.1 F.2.1 hd hq' (hz H locs la hP hD hS hL)
    · subst hj
      exact hz.elim
  case ireturn =>
    subst hj
    simp only [zlen] at hl; subst hl
    obtain ⟨x, rfl, hz1⟩ := zE1_inv hz
    exact hR1 pc x ls h hd hz1
  case return_ =>
    subst hj
    simp only [zlen] at hl; subst hl
    obtain ⟨rfl, hz1⟩ := zE0_inv hz
    exact hR0 pc ls h hd hz1
  all_goals (subst hj; exact hz.elim)
end ZSEC
end
section
/-! THE Z LOGIC, runs, methods, calls -/
def zchk (cc : ByteArray) : List (Nat × Nat × Instr) → Bool
  | [] => true
  | q :: t => (match decode cc q.1 with
      | .ok (j, n) => decide (n = zlen n j) && (decide (znorm q.1 j = q.2.2) && decide (q.2.1 = q.1 + n))
      | .error _ => false) && ((match t with
      | [] => true
      | q2 :: _ => decide (q2.1 = q.2.1)) && zchk cc t)
theorem zchk_head {cc : ByteArray} {q : Nat × Nat × Instr} {t : List (Nat × Nat × Instr)} (h : zchk cc (q :: t) = true) : (∃ j n, decode cc q.1 = .ok (j, n) ∧ n = zlen n j ∧ znorm q.1 j = q.2.2 ∧ q.2.1 = q.1 + n) ∧ (∀ q2 t2, t = q2 :: t2 → q2.1 = q.2.1) ∧ zchk cc t = true := by
  simp only [zchk, Bool.and_eq_true] at h
  obtain ⟨h1, h2, h3⟩ := h
  refine ⟨?_, ?_, h3⟩
  · split at h1
    · rename_i j n hd
      simp only [Bool.and_eq_true, decide_eq_true_eq] at h1
      exact ⟨j, n, hd, h1.1, h1.2.1, h1.2.2⟩
    · cases h1
  · rintro q2 t2 rfl
    simpa using h2
theorem zchk_drop {cc : ByteArray} : ∀ (k : Nat) (t : List (Nat × Nat × Instr)), zchk cc t = true → zchk cc (t.drop k) = true
  | 0, t, h => h
  | k + 1, [], h => h
  | k + 1, q :: t, h => zchk_drop k t (zchk_head h).2.2
def zrun (own : Nat) (R1 : Int32 → List ZC → Prop) (R0 : List ZC → Prop) (C : ZP) : Nat → List (Nat × Nat × Instr) → ZK
  | 0, q :: _, ls, st, h => C q.1 ls st h
  | n + 1, q :: t, ls, st, h => zi own R1 R0 C q.2.2 ls st h (fun ls st h => zrun own R1 R0 C n t ls st h)
  | _, [], _, _, _ => False
def zpc (code : List (Nat × Nat × Instr)) (k : Nat) : Nat := match code.drop k with
  | q :: _ => q.1
  | [] => 0
/-- what a walk is given of the state in which its method began, beside its cells: the classes, links between nest mates, the two tables -/
def zA (ad : Nat → Nat) (n : Nat) : Nat → Prop := fun q => ∃ i, i < n ∧ q = ad i
def zn1 : Cond := .methodLinkNest RX2 27 yX3_isLength "RepealedLaws"
def zn2 : Cond := .methodLinkNest RX2 34 yX3_isTopic "RepealedLaws"
def zn3 : Cond := .methodLinkNest RX2 40 yX3_isStance "RepealedLaws"
def zn4 : Cond := .methodLinkNest RX3 18 yX2_init "RepealedLaws"
def zleast : Nat → Value := fun j => match j with
  | 0 => .int (nI 1)
  | 1 => .int (nI 1)
  | _ => .int (nI 0)
def zgreat : Nat → Value := fun j => match j with
  | 0 => .int (nI 5)
  | 1 => .int (nI 16)
  | _ => .int (nI 9)
def zE (D : va_G) (cA : Nat → ClassId) (ad : Nat → Nat) (A : Nat → Prop) (U : State) (H : Heap) : Prop :=
  va_K D vwCl (zT cA) U ∧ (va_Nw zn1 U ∧ va_Nw zn2 U ∧ va_Nw zn3 U ∧ va_Nw zn4 U) ∧
  (va_Z "RepealedLaws" "LEAST_VALUES" "[I" (.ref (ad 1000)) A U H ∧ va_T .int (ad 1000) 3 zleast A U H) ∧
  (va_Z "RepealedLaws" "GREATEST_VALUES" "[I" (.ref (ad 1001)) A U H ∧ va_T .int (ad 1001) 3 zgreat A U H)
theorem zE.to {D : va_G} {cA : Nat → ClassId} {ad ad' : Nat → Nat} {A A' : Nat → Prop} {s U : State} {H : Heap} {locs : List Loc} (h : zE D cA ad A s s.heap) (hS : va_S A s.heap H locs) (hU : U.heap = H) (hW : s.WarmedH U.vm) (hA : ∀ q, A' q → A q) (h0 : ad' 1000 = ad 1000) (h1 : ad' 1001 = ad 1001) : zE D cA ad' A' U U.heap := by
  obtain ⟨k1, ⟨n1, n2, n3, n4⟩, ⟨z1, t1⟩, ⟨z2, t2⟩⟩ := h
  have hq : ∀ a : Nat, a < s.heap.size → ¬ A a → U.heap[a]? = s.heap[a]? := fun a b c => by rw [hU]; exact hS.2.1 a b c
  rw [← h0] at z1 t1
  rw [← h1] at z2 t2
  exact ⟨va_K.moved hW.alike k1, ⟨va_Nw.warmM hW n1, va_Nw.warmM hW n2, va_Nw.warmM hW n3, va_Nw.warmM hW n4⟩, ⟨((z1.kept hq).moved hW.alike).narrow hA, ((t1.kept hq).moved hW.alike).narrow hA⟩, ⟨((z2.kept hq).moved hW.alike).narrow hA, ((t2.kept hq).moved hW.alike).narrow hA⟩⟩
theorem zE.same {D : va_G} {cA : Nat → ClassId} {ad : Nat → Nat} {A : Nat → Prop} {u U : State} {H : Heap} (hvm : u.vm = U.vm) (h : zE D cA ad A u H) : zE D cA ad A U H := by
  have ha : u.vm.Alike U.vm := by rw [hvm]; exact Vm.Alike.refl _
  obtain ⟨k1, ⟨n1, n2, n3, n4⟩, ⟨z1, t1⟩, ⟨z2, t2⟩⟩ := h
  exact ⟨va_K.moved ha k1, ⟨va_Nw.same rfl hvm n1, va_Nw.same rfl hvm n2, va_Nw.same rfl hvm n3, va_Nw.same rfl hvm n4⟩, ⟨z1.moved ha, t1.moved ha⟩, ⟨z2.moved ha, t2.moved ha⟩⟩
/-- the package of a walk: the machine's part, and what may be said at a return -/
def zR (own : Nat) (cc : ByteArray) (code : List (Nat × Nat × Instr)) (nL fr lo : Nat) (R1 : Int32 → List ZC → Prop) (R0 : List ZC → Prop) (C : ZP) : Prop :=
  ∃ (p : Program) (l : Launch) (e : Env) (R : Room) (s : State) (m : MethodId) (args : Array Value) (below : List Frame) (meth : Method) (c : Code) (Q : State → Prop) (D : va_G) (cA : Nat → ClassId) (ad : Nat → Nat) (A : Nat → Prop),
    CallFix p m c cc nL s args zt (zcn own) ∧ zE D cA ad A s s.heap ∧ zchk cc code = true ∧ fr ≤ R.frames ∧ lo ≤ R.locals ∧
    (∀ (pc : Nat) (x : Int32) (ls : List (Option Value)) (h : List ZC), decode cc pc = .ok (.ireturn, 1) → R1 x h → Z p l e R s m args below meth c Q D cA ad A pc ls [.int x] h) ∧
    (∀ (pc : Nat) (ls : List (Option Value)) (h : List ZC), decode cc pc = .ok (.return_, 1) → R0 h → Z p l e R s m args below meth c Q D cA ad A pc ls [] h) ∧
    C = Z p l e R s m args below meth c Q D cA ad A
section ZRUN
variable {own : Nat} {cc : ByteArray} {code : List (Nat × Nat × Instr)} {nL fr lo : Nat} {R1 : Int32 → List ZC → Prop} {R0 : List ZC → Prop} {C : ZP}
theorem zgo (hC : zR own cc code nL fr lo R1 R0 C) (k n : Nat) {pc : Nat} {ls : List (Option Value)} {st : List Value} {h : List ZC} (hp : zpc code k = pc) (hz : zrun own R1 R0 C n (code.drop k) ls st h) : C pc ls st h := by
  obtain ⟨p, l, e, R, s, m, args, below, meth, c, Q, D, cA, ad, A, F, hK, hck, hfr, hlo, hR1, hR0, rfl⟩ := hC
  have key : ∀ (n : Nat) (t : List (Nat × Nat × Instr)), zchk cc t = true → ∀ (ls : List (Option Value)) (st : List Value) (h : List ZC), zrun own R1 R0 (Z p l e R s m args below meth c Q D cA ad A) n t ls st h → ∀ q t2, t = q :: t2 → Z p l e R s m args below meth c Q D cA ad A q.1 ls st h := by
    intro n
    induction n with
    | zero =>
      rintro t ht ls st h hz q t2 rfl
      exact hz
    | succ n ih =>
      rintro t ht ls st h hz q t2 rfl
      obtain ⟨⟨j, n1, hd, hl, hj, hn⟩, hnext, ht2⟩ := zchk_head ht
      refine zi_ok F hK.1 hR1 hR0 hd hl hj hz (fun ls2 st2 h2 hz2 => ?_)
      cases t2 with
      | nil => cases n <;> exact hz2.elim
      | cons q2 t3 =>
        have := ih (q2 :: t3) ht2 ls2 st2 h2 hz2 q2 t3 rfl
        rw [hnext q2 t3 rfl, hn] at this
        exact this
  subst hp
  unfold zpc
  cases ht : code.drop k with
  | nil =>
    rw [ht] at hz
    cases n <;> exact hz.elim
  | cons q t2 =>
    exact key n (code.drop k) (zchk_drop k code hck) ls st h hz q t2 ht
theorem zmask (hC : zR own cc code nL fr lo R1 R0 C) (bs : List Bool) {pc : Nat} {ls : List (Option Value)} {st : List Value} {h : List ZC} (hz : C pc (zmk bs ls) st h) : C pc ls st h := by
  obtain ⟨p, l, e, R, s, m, args, below, meth, c, Q, D, cA, ad, A, F, hK, hck, hfr, hlo, hR1, hR0, rfl⟩ := hC
  exact fun H locs la hP hD hS hL => hz H locs la hP hD hS (zHas_mk bs hL)
/-! heaps that are the same within the arrays' lengths -/
def zeqc (c d : ZC) : Prop := match c, d with
  | .inl x, .inl y => x.1 = y.1 ∧ x.2.1 = y.2.1 ∧ ∀ j, j < x.2.1 → x.2.2 j = y.2.2 j
  | c, d => c = d
def zeqv : List ZC → List ZC → Prop
  | [], [] => True
  | c :: t, d :: u => zeqc c d ∧ zeqv t u
  | _, _ => False
theorem zeqc_rf (c : ZC) : zeqc c c := by
  obtain x | x := c
  · exact ⟨rfl, rfl, fun _ _ => rfl⟩
  · rfl
theorem zeqv_rf : ∀ (h : List ZC), zeqv h h
  | [] => trivial
  | c :: t => ⟨zeqc_rf c, zeqv_rf t⟩
theorem zeqv_len : ∀ (h h2 : List ZC), zeqv h h2 → h.length = h2.length
  | [], [], _ => rfl
  | c :: t, d :: u, hq => by simp [zeqv_len t u hq.2]
  | [], d :: u, hq => hq.elim
  | c :: t, [], hq => hq.elim
theorem zeqv_get : ∀ (h h2 : List ZC), zeqv h h2 → ∀ (i : Nat) (d : ZC), h2[i]? = some d → ∃ c, h[i]? = some c ∧ zeqc c d
  | [], [], _, i, d, hi => by simp at hi
  | c :: t, d :: u, hq, 0, x, hi => by
    simp at hi
    subst hi
    exact ⟨c, rfl, hq.1⟩
  | c :: t, d :: u, hq, i + 1, x, hi => by
    simp only [List.getElem?_cons_succ] at hi ⊢
    exact zeqv_get t u hq.2 i x hi
  | [], d :: u, hq, i, x, hi => hq.elim
  | c :: t, [], hq, i, x, hi => hq.elim
theorem arrV_eq (cI : ClassId) {N : Nat} {f g : Nat → Value} (h : ∀ j, j < N → f j = g j) : arrV cI N f = arrV cI N g := by
  unfold arrV
  congr 1
  apply Array.ext
  · simp
  · intro i h1 h2
    simp at h1 ⊢
    exact h i h1
theorem zeqv_P {D : va_G} {cA : Nat → ClassId} {ad : Nat → Nat} {h h2 : List ZC} {H : Heap} (hq : zeqv h h2) (hP : va_P D vwCl (zW cA ad h) H) : va_P D vwCl (zW cA ad h2) H := by
  intro k q hk
  obtain ⟨d, hd, rfl⟩ := zW_inv hk
  obtain ⟨c, hc, hcd⟩ := zeqv_get h h2 hq k d hd
  have h1 := hP k _ (zW_get hc)
  obtain x | x := c
  · obtain y | y := d
    · obtain ⟨e1, e2, e3⟩ := hcd
      have h1 : H[ad k]? = some (vp_cell (cA x.1) (x.2.1, .inl x.2.2)) := h1
      show H[ad k]? = some (vp_cell (cA y.1) (y.2.1, .inl y.2.2))
      rw [h1, ← e1, ← e2, vp_cell_i, vp_cell_i]
      congr 1
      exact arrV_eq _ (fun j hj => by rw [e3 j hj])
    · cases hcd
  · obtain y | y := d
    · cases hcd
    · have e : (Sum.inr x : ZC) = Sum.inr y := hcd
      rw [← e]
      exact h1
theorem zD_len {cA : Nat → ClassId} {ad : Nat → Nat} {A : Nat → Prop} {h h2 : List ZC} (hl : h2.length = h.length) (hD : va_D A (zW cA ad h)) : va_D A (zW cA ad h2) := by
  have key : ∀ (k : Nat) (q : Nat × va_E), (zW cA ad h2)[k]? = some q → ∃ q2, (zW cA ad h)[k]? = some q2 ∧ q2.1 = q.1 := by
    intro k q hk
    obtain ⟨d, hd, rfl⟩ := zW_inv hk
    have hlt : k < h.length := by rw [← hl]; exact (List.getElem?_eq_some_iff.mp hd).1
    exact ⟨_, zW_get (List.getElem?_eq_getElem hlt), rfl⟩
  refine ⟨fun i j p q hi hj hpq => ?_, fun k q hk => ?_⟩
  · obtain ⟨p2, h1, e1⟩ := key i p hi
    obtain ⟨q2, h3, e2⟩ := key j q hj
    exact hD.1 i j p2 q2 h1 h3 (by rw [e1, e2, hpq])
  · obtain ⟨q2, h1, e1⟩ := key k q hk
    rw [← e1]
    exact hD.2 k q2 h1
theorem zeq (hC : zR own cc code nL fr lo R1 R0 C) {h2 : List ZC} {pc : Nat} {ls : List (Option Value)} {st : List Value} {h : List ZC} (hq : zeqv h h2) (hz : C pc ls st h2) : C pc ls st h := by
  obtain ⟨p, l, e, R, s, m, args, below, meth, c, Q, D, cA, ad, A, F, hK, hck, hfr, hlo, hR1, hR0, rfl⟩ := hC
  exact fun H locs la hP hD hS hL => hz H locs la (zeqv_P hq hP) (zD_len (zeqv_len _ _ hq).symm hD) hS hL
end ZRUN
/-! methods -/
theorem zA_D {cA : Nat → ClassId} {ad : Nat → Nat} {h : List ZC} {A : Nat → Prop} (hD : va_D A (zW cA ad h)) : va_D (zA ad h.length) (zW cA ad h) := ⟨hD.1, fun k q hk => by
  obtain ⟨d, hd, rfl⟩ := zW_inv hk
  exact ⟨k, (List.getElem?_eq_some_iff.mp hd).1, rfl⟩⟩
theorem zA_sub {cA : Nat → ClassId} {ad : Nat → Nat} {h : List ZC} {A : Nat → Prop} (hD : va_D A (zW cA ad h)) : ∀ q, zA ad h.length q → A q := by
  rintro q ⟨i, hi, rfl⟩
  exact hD.2 i _ (zW_get (List.getElem?_eq_getElem hi))
def zR1 (ret : Option FieldType) (rv : Option Value) (h' : List ZC) : Int32 → List ZC → Prop := fun x h1 => match ret with
  | some ty => narrow ty (.int x) = .int x ∧ rv = some (.int x) ∧ h1 = h'
  | none => False
def zR0 (ret : Option FieldType) (rv : Option Value) (h' : List ZC) : List ZC → Prop := fun h1 => match ret with
  | some _ => False
  | none => rv = none ∧ h1 = h'
/-- the contract of a method: at the cells h, with these arguments, it answers rv and leaves h' -/
def ZM (y : MethodName) (cc : ByteArray) (nL : Nat) (ret : Option FieldType) (fr lo : Nat) (arg : List Value) (h : List ZC) (rv : Option Value) (h' : List ZC) : Prop :=
  h'.length = h.length ∧ ∀ (l : Launch) (D : va_G) (cA : Nat → ClassId) (ad : Nat → Nat),
    Met l y (.code y cc nL ret :: zt) { frames := fr, cells := 0, slots := 0, locals := lo }
      (va_Pc (arg.map (zv ad)) (fun U => va_P D vwCl (zW cA ad h) U.heap ∧ zE D cA ad (zA ad h.length) U U.heap ∧ va_D (fun _ => True) (zW cA ad h)))
      (fun _ st oc t => oc = .returned (rv.map (zv ad)) ∧ va_P D vwCl (zW cA ad h') t.heap ∧ va_F (zA ad h.length) st t) 0 0 (zA ad h.length)
set_option maxHeartbeats 1000000 in
theorem zm_of {y : MethodName} {cc : ByteArray} {nL : Nat} {ret : Option FieldType} {fr lo : Nat} {arg : List Value} {h : List ZC} {rv : Option Value} {h' : List ZC} (own : Nat) (code : List (Nat × Nat × Instr)) (hy : plainName y.cls = true) (hcls : y.cls = zcn own) (hck : zchk cc code = true) (hlen : h'.length = h.length) (hfit : (zargl arg).length ≤ nL)
    (body : ∀ C : ZP, zR own cc code nL fr lo (zR1 ret rv h') (zR0 ret rv h') C → C 0 (zarg nL arg) [] h) : ZM y cc nL ret fr lo arg h rv h' := by
  refine ⟨hlen, fun l D cA ad => ?_⟩
  refine Met.ofW (cc := cc) (maxL := nL) (ret := ret) hy rfl ?_
  intro p e s m args below meth c s₁ B hml hv
  obtain ⟨rfl, hP, hK, hD0⟩ := hv
  have hx := B.exec
  have hb := B.bytes
  have hr := B.returns
  have hlocks := B.notSynchronized
  have hts := atoms_spec (ws := .code y cc nL ret :: zt) B.pre
  have hown : s.vm.findClass (zcn own) = some m.cls := hcls ▸ findClass_of_methodNamed B.named
  have hD := zA_D hD0
  rw [lg_entry_eq]
  refine body _ ⟨p, l, e, _, s, m, _, below, meth, c, _, D, cA, ad, zA ad h.length, ⟨hx, hb, hml, hown, fun w hw => hts w (List.mem_cons_of_mem _ hw)⟩, hK, hck, Nat.le_refl _, Nat.le_refl _, ?_, ?_, rfl⟩ s.heap [] _ hP hD va_S.rf (zHas_arg hfit)
  · intro pc x ls h1 hd h2 H locs la hP hD hS hL
    cases ret with
    | none => exact h2.elim
    | some ty =>
      obtain ⟨hn, rfl, rfl⟩ := h2
      exact W.zret (v := x) hx hb hr hn (fun t ht hW => ⟨rfl, by rw [ht]; exact hP, hS.F ht⟩) hS.2.2 hd
  · intro pc ls h1 hd h2 H locs la hP hD hS hL
    cases ret with
    | some ty => exact h2.elim
    | none =>
      obtain ⟨rfl, rfl⟩ := h2
      exact W.vret hx hb hr (fun t ht hW => ⟨rfl, by rw [ht]; exact hP, hS.F ht⟩) hS.2.2 hd
end
section
/-! THE Z LOGIC, calls: over the same cells, or over a part of them under other numbers -/
theorem zcat_eq (ad : Nat → Nat) (r : List Value) : ((r.map (zv ad)).map fun v => v.category).sum = (r.map fun v => v.category).sum := by
  rw [List.map_map]
  congr 1
  apply List.map_congr_left
  intro v _
  cases v <;> rfl
/-- what the tables say of a method that is called -/
def zcV (y : MethodName) (cc : ByteArray) (nL : Nat) (ret : Option FieldType) (n : Nat) : Prop :=
  Cond.instanceMethod y ∈ zt ∧ Cond.selects y.cls y y ∈ zt ∧ Cond.initialized y.cls ∈ zt ∧ Cond.code y cc nL ret ∈ zt ∧ (y.cls ≠ "java/lang/invoke/MethodHandle" ∧ y.cls ≠ "java/lang/invoke/VarHandle" ∧ (parseMethodDescriptor y.desc).map (fun d => d.parameters.length) = some n)
def zcS (y : MethodName) (cc : ByteArray) (nL : Nat) (ret : Option FieldType) (n : Nat) : Prop :=
  Cond.static y ∈ zt ∧ Cond.initialized y.cls ∈ zt ∧ Cond.code y cc nL ret ∈ zt ∧ (y.cls ≠ "java/lang/invoke/MethodHandle" ∧ y.cls ≠ "java/lang/invoke/VarHandle" ∧ (parseMethodDescriptor y.desc).map (fun d => d.parameters.length) = some n)
def zrc (h : List ZC) (b : Nat) : Option String := match zg h b with
  | some (.inr (.inl x)) => (match Nat.ble (x.1 + 1) 5 with
    | true => some (zcn x.1)
    | false => none)
  | _ => none
theorem zrc_inv {h : List ZC} {b : Nat} {n : String} (hz : zrc h b = some n) : ∃ ci fs, h[b]? = some (.inr (.inl (ci, fs))) ∧ ci < 5 ∧ zcn ci = n := by
  unfold zrc at hz
  split at hz
  · rename_i x e
    split at hz
    · rename_i hb
      rw [zg_eq] at e
      exact ⟨x.1, x.2, e, Nat.le_of_ble_eq_true hb, Option.some.inj hz⟩
    · cases hz
  · cases hz
section ZC1
variable {p : Program} {l : Launch} {e : Env} {R : Room} {s : State} {m : MethodId} {args : Array Value} {below : List Frame} {meth : Method} {c : Code} {Q : State → Prop}
variable {D : va_G} {cA : Nat → ClassId} {ad : Nat → Nat} {A : Nat → Prop} {cc : ByteArray} {nL own : Nat} {H : Heap} {locs : List Loc}
/-- behind any call -/
theorem z_core {pc : Nat} {la : Array Slot} {st0 rest : List Value} {Qa : State → Outcome → State → Prop} {free : Addr → Prop} {rv : Option Value} {PP : Heap → Prop} {A1 : Nat → Prop}
    (hr : va_Run p l e R s m args below meth c H locs 0 0 0 0 (F0 m pc la st0) rest Qa free)
    (hQ : ∀ st oc t, Qa st oc t → oc = .returned rv ∧ PP t.heap ∧ va_F A1 st t) (hS : va_S A s.heap H locs) (hA : ∀ q, A1 q → A q) (hf : ∀ q, free q → A q)
    (kk : ∀ (H1 : Heap) (locs1 : List Loc), PP H1 → (∀ q : Nat, q < H.size → ¬ A1 q → H1[q]? = H[q]?) → va_S A s.heap H1 locs1 → W p l e R s m args below meth c H1 locs1 0 0 Q (F0 m (pc + 3) la (rv.toList ++ rest))) :
    W p l e R s m args below meth c H locs 0 0 Q (F0 m pc la st0) := by
  intro T hT X
  obtain ⟨v, st₀, t, T', L, h0, X', hL, e1, e2, hq, st⟩ := hr T hT X
  obtain ⟨hv, hP, hz, hk⟩ := hQ _ _ _ hq
  cases hv
  rw [h0] at hz hk
  obtain ⟨t2, a1, b1⟩ := kk T'.heap (locs ++ L) (by rw [e1]; exact hP) (fun q h1 h2 => by rw [e1]; exact hk q h1 h2)
    ⟨Nat.le_trans hS.1 (by rw [e1]; exact hz), fun q h1 h2 => by rw [e1, hk q (Nat.lt_of_lt_of_le h1 hS.1) (fun z => h2 (hA q z))]; exact hS.2.1 q h1 h2, fun q hq => by
      rcases List.mem_append.mp hq with h | h
      · exact hS.2.2 q h
      · exact hf _ (hL q h)⟩ T' rfl X'
  exact ⟨t2, st t2 a1, b1⟩
end ZC1
theorem zPc_blind {D : va_G} {cA : Nat → ClassId} {ad : Nat → Nat} {h : List ZC} {av : List Value} : FrameBlind (va_Pc av (fun U => va_P D vwCl (zW cA ad h) U.heap ∧ zE D cA ad (zA ad h.length) U U.heap ∧ va_D (fun _ => True) (zW cA ad h))) :=
  fun a U g mk q => ⟨q.1, q.2.1, zE.same (u := U) (U := U.calling g mk a) rfl q.2.2.1, q.2.2.2⟩
theorem zt_good2 {ws : List Cond} (h : ∀ w ∈ ws, w ∈ zt) : GoodIn zt ws := fun w hw => ⟨h w hw, good_of_word (zt_good w (h w hw))⟩
section ZC2
variable {own : Nat} {cc : ByteArray} {code : List (Nat × Nat × Instr)} {nL fr lo : Nat} {R1 : Int32 → List ZC → Prop} {R0 : List ZC → Prop} {C : ZP}
variable {y : MethodName} {ccc : ByteArray} {nLc : Nat} {ret : Option FieldType} {n frc loc idx : Nat} {As rest : List Value} {h h2 : List ZC} {b pc : Nat} {rv : Option Value} {ls : List (Option Value)}
theorem z_tail {ad : Nat → Nat} : (rv.map (zv ad)).toList ++ rest.map (zv ad) = (rv.toList ++ rest).map (zv ad) := by cases rv <;> simp
theorem zcallV (hC : zR own cc code nL fr lo R1 R0 C) (hM : ZM y ccc nLc ret frc loc (.ref b :: As) h rv h2) (hc : zcV y ccc nLc ret n) (hl : Cond.methodLink (zcn own) idx y ∈ zt) (hd : decode cc pc = .ok (.invokevirtual idx, 3)) (hn : As.length = n) (hls : ls.length = nL) (hrc : zrc h b = some y.cls) (hfr : frc + 1 ≤ fr) (hlo : 8 + (nLc + 11) + loc ≤ lo) (hcat : (rest.map fun v => v.category).sum ≤ 8)
    (k : C (pc + 3) ls (rv.toList ++ rest) h2) : C pc ls (As.reverse ++ .ref b :: rest) h := by
  obtain ⟨p, l, e, R, s, m, args, below, meth, c, Q, D, cA, ad, A, F, hK, hck, hfr2, hlo2, hR1, hR0, rfl⟩ := hC
  obtain ⟨c1, c2, c3, c4, c5⟩ := hc
  obtain ⟨ci, fs, g1, g2, g3⟩ := zrc_inv hrc
  intro H locs la hP hD hS hL
  have hst : (As.reverse ++ .ref b :: rest).map (zv ad) = (As.map (zv ad)).reverse ++ .ref (ad b) :: rest.map (zv ad) := by simp [zv]
  rw [hst]
  have hG : GoodIn zt (wsV (zcn own) idx y.cls y (.code y ccc nLc ret :: zt)) := zt_good2 (fun w hw => by
    unfold wsV at hw
    rcases List.mem_append.mp hw with hw | hw
    · simp only [List.mem_cons, List.not_mem_nil, or_false] at hw
      rcases hw with rfl | rfl | rfl | rfl
      · exact hl
      · exact c1
      · exact c2
      · exact c3
    · rcases List.mem_cons.mp hw with rfl | hw
      · exact c4
      · exact hw)
  refine z_core (A1 := zA ad h.length) (PP := va_P D vwCl (zW cA ad h2)) (va_runV (As := As.map (zv ad)) (rest := rest.map (zv ad)) F (hM.2 l D cA ad) (cwV n F.2.2.2.2 hG rfl rfl rfl ⟨rfl, c5⟩ ⟨by simpa using Nat.le_trans hfr hfr2, by simpa using Nat.le_trans hlo hlo2⟩) ⟨zPc_blind, ?_, fun U hU hW => ⟨rfl, by rw [hU]; exact hP, zE.to hK hS hU hW (zA_sub hD) rfl rfl, hD.weaken (fun _ _ _ _ => trivial)⟩⟩ rfl (by rw [List.length_map]; exact hn) (by rw [← hls]; exact hL.1) rfl (lv_room (by rw [zcat_eq]; exact hcat)) hd ⟨Nat.zero_le _, Nat.zero_le _⟩) (fun st oc t hq => hq) hS (zA_sub hD) (zA_sub hD) (fun H1 locs1 hP1 hk1 hS1 => ?_)
  · have hv := va_recv hK.1 hP (zc_cl ci g2) (zW_get g1)
    rw [g3] at hv
    exact hv
  · rw [z_tail]
    exact k H1 locs1 la hP1 (zD_len hM.1 hD) hS1 hL
theorem zcallS (hC : zR own cc code nL fr lo R1 R0 C) (hM : ZM y ccc nLc ret frc loc As h rv h2) (hc : zcS y ccc nLc ret n) (hl : Cond.methodLink (zcn own) idx y ∈ zt) (hd : decode cc pc = .ok (.invokestatic idx, 3)) (hn : As.length = n) (hls : ls.length = nL) (hfr : frc + 1 ≤ fr) (hlo : 8 + (nLc + 11) + loc ≤ lo) (hcat : (rest.map fun v => v.category).sum ≤ 8)
    (k : C (pc + 3) ls (rv.toList ++ rest) h2) : C pc ls (As.reverse ++ rest) h := by
  obtain ⟨p, l, e, R, s, m, args, below, meth, c, Q, D, cA, ad, A, F, hK, hck, hfr2, hlo2, hR1, hR0, rfl⟩ := hC
  obtain ⟨c1, c3, c4, c5⟩ := hc
  intro H locs la hP hD hS hL
  have hst : (As.reverse ++ rest).map (zv ad) = (As.map (zv ad)).reverse ++ rest.map (zv ad) := by simp
  rw [hst]
  have hG : GoodIn zt (va_wsS (zcn own) idx y (.code y ccc nLc ret :: zt)) := zt_good2 (fun w hw => by
    unfold va_wsS at hw
    rcases List.mem_append.mp hw with hw | hw
    · simp only [List.mem_cons, List.not_mem_nil, or_false] at hw
      rcases hw with rfl | rfl | rfl
      · exact hl
      · exact c1
      · exact c3
    · rcases List.mem_cons.mp hw with rfl | hw
      · exact c4
      · exact hw)
  refine z_core (A1 := zA ad h.length) (PP := va_P D vwCl (zW cA ad h2)) (va_runS (As := As.map (zv ad)) (rest := rest.map (zv ad)) F (hM.2 l D cA ad) (va_cwS n F.2.2.2.2 hG rfl rfl rfl c5 ⟨by simpa using Nat.le_trans hfr hfr2, by simpa using Nat.le_trans hlo hlo2⟩) ⟨zPc_blind, fun U hU hW => ⟨rfl, by rw [hU]; exact hP, zE.to hK hS hU hW (zA_sub hD) rfl rfl, hD.weaken (fun _ _ _ _ => trivial)⟩⟩ rfl (by rw [List.length_map]; exact hn) (by rw [← hls]; exact hL.1) rfl (lv_room (by rw [zcat_eq]; exact hcat)) hd ⟨Nat.zero_le _, Nat.zero_le _⟩) (fun st oc t hq => hq) hS (zA_sub hD) (zA_sub hD) (fun H1 locs1 hP1 hk1 hS1 => ?_)
  rw [z_tail]
  exact k H1 locs1 la hP1 (zD_len hM.1 hD) hS1 hL
theorem zE_nest {D : va_G} {cA : Nat → ClassId} {ad : Nat → Nat} {A : Nat → Prop} {U : State} {H : Heap} {w : Cond} (h : zE D cA ad A U H) (hw : w ∈ [zn1, zn2, zn3]) : va_Nw w U := by
  simp only [List.mem_cons, List.not_mem_nil, or_false] at hw
  rcases hw with rfl | rfl | rfl
  · exact h.2.1.1
  · exact h.2.1.2.1
  · exact h.2.1.2.2.1
/-- a static method of a nest mate that is private there -/
theorem zcallN (hC : zR own cc code nL fr lo R1 R0 C) (hM : ZM y ccc nLc ret frc loc As h rv h2) (hc : zcS y ccc nLc ret n) (hl : Cond.methodLinkNest (zcn own) idx y "RepealedLaws" ∈ [zn1, zn2, zn3]) (hd : decode cc pc = .ok (.invokestatic idx, 3)) (hn : As.length = n) (hls : ls.length = nL) (hfr : frc + 1 ≤ fr) (hlo : 8 + (nLc + 11) + loc ≤ lo) (hcat : (rest.map fun v => v.category).sum ≤ 8)
    (k : C (pc + 3) ls (rv.toList ++ rest) h2) : C pc ls (As.reverse ++ rest) h := by
  obtain ⟨p, l, e, R, s, m, args, below, meth, c, Q, D, cA, ad, A, F, hK, hck, hfr2, hlo2, hR1, hR0, rfl⟩ := hC
  obtain ⟨c1, c3, c4, c5⟩ := hc
  intro H locs la hP hD hS hL
  have hst : (As.reverse ++ rest).map (zv ad) = (As.map (zv ad)).reverse ++ rest.map (zv ad) := by simp
  rw [hst]
  have hG : GoodIn zt (.code y ccc nLc ret :: zt) := zt_good2 (fun w hw => by
    rcases List.mem_cons.mp hw with rfl | hw
    · exact c4
    · exact hw)
  refine z_core (A1 := zA ad h.length) (PP := va_P D vwCl (zW cA ad h2)) (va_runSN (As := As.map (zv ad)) (rest := rest.map (zv ad)) F (hM.2 l D cA ad) ⟨va_cnB n F.2.2.2.2 hG rfl rfl rfl (zE_nest hK hl) (F.2.2.2.2 _ c3) c5 ⟨by simpa using Nat.le_trans hfr hfr2, by simpa using Nat.le_trans hlo hlo2⟩, F.2.2.2.2 _ c1, trivial⟩ ⟨zPc_blind, fun U hU hW => ⟨rfl, by rw [hU]; exact hP, zE.to hK hS hU hW (zA_sub hD) rfl rfl, hD.weaken (fun _ _ _ _ => trivial)⟩⟩ rfl (by rw [List.length_map]; exact hn) (by rw [← hls]; exact hL.1) rfl (lv_room (by rw [zcat_eq]; exact hcat)) hd ⟨Nat.zero_le _, Nat.zero_le _⟩) (fun st oc t hq => hq) hS (zA_sub hD) (zA_sub hD) (fun H1 locs1 hP1 hk1 hS1 => ?_)
  rw [z_tail]
  exact k H1 locs1 la hP1 (zD_len hM.1 hD) hS1 hL
end ZC2
/-! a part of the cells, under other numbers: the callee's cell i is the caller's cell σ i -/
def zsi (sg : List Nat) (i : Nat) : Nat := match zg sg i with
  | some j => j
  | none => i
def zrv (sg : List Nat) (v : Value) : Value := match v with
  | .ref i => .ref (zsi sg i)
  | v => v
def zrn (sg : List Nat) (c : ZC) : ZC := match c with
  | .inl x => .inl x
  | .inr (.inl x) => .inr (.inl (x.1, x.2.map (zrv sg)))
  | .inr (.inr x) => .inr (.inr (x.1, fun j => (x.2 j).map (zsi sg)))
def zad (ad : Nat → Nat) (sg : List Nat) : Nat → Nat := fun i => ad (zsi sg i)
theorem zv_rv (ad : Nat → Nat) (sg : List Nat) (v : Value) : zv ad (zrv sg v) = zv (zad ad sg) v := by cases v <;> rfl
theorem zce_rn (cA : Nat → ClassId) (ad : Nat → Nat) (sg : List Nat) (c : ZC) : zce cA ad (zrn sg c) = zce cA (zad ad sg) c := by
  obtain x | x | x := c
  · rfl
  · simp only [zce, zrn, List.map_map]
    congr 2
    apply List.map_congr_left
    intro v _
    exact zv_rv ad sg v
  · simp only [zce, zrn, Option.map_map]
    rfl
/-- the caller's cells at sg are the callee's hc -/
def zsub (sg0 : List Nat) (h : List ZC) : List Nat → List ZC → Prop
  | [], [] => True
  | i :: sg, c :: hc => zg h i = some (zrn sg0 c) ∧ zsub sg0 h sg hc
  | _, _ => False
theorem zsub_get {sg0 : List Nat} {h : List ZC} : ∀ (sg : List Nat) (hc : List ZC), zsub sg0 h sg hc → ∀ (i : Nat) (c : ZC), hc[i]? = some c → ∃ j, sg[i]? = some j ∧ h[j]? = some (zrn sg0 c)
  | [], [], _, i, c, hi => by simp at hi
  | j :: sg, d :: hc, hq, 0, c, hi => by
    simp at hi
    subst hi
    exact ⟨j, rfl, by rw [← zg_eq]; exact hq.1⟩
  | j :: sg, d :: hc, hq, i + 1, c, hi => by
    simp only [List.getElem?_cons_succ] at hi ⊢
    exact zsub_get sg hc hq.2 i c hi
  | [], d :: hc, hq, i, c, hi => hq.elim
  | j :: sg, [], hq, i, c, hi => hq.elim
theorem zsub_len {sg0 : List Nat} {h : List ZC} : ∀ (sg : List Nat) (hc : List ZC), zsub sg0 h sg hc → sg.length = hc.length
  | [], [], _ => rfl
  | j :: sg, d :: hc, hq => by simp [zsub_len sg hc hq.2]
  | [], d :: hc, hq => hq.elim
  | j :: sg, [], hq => hq.elim
def zpt : List Nat → List ZC → List ZC → List ZC
  | i :: sg, c :: cs, h => zpt sg cs (h.set i c)
  | _, _, h => h
theorem zpt_len : ∀ (sg : List Nat) (cs h : List ZC), (zpt sg cs h).length = h.length
  | [], cs, h => rfl
  | i :: sg, [], h => rfl
  | i :: sg, c :: cs, h => by simp [zpt, zpt_len sg cs]
theorem zpt_get : ∀ (sg : List Nat) (cs h : List ZC) (j : Nat) (d : ZC), (zpt sg cs h)[j]? = some d → (∃ i : Nat, sg[i]? = some j ∧ cs[i]? = some d) ∨ (h[j]? = some d ∧ ∀ i : Nat, i < cs.length → ¬ sg[i]? = some j)
  | [], cs, h, j, d, hd => Or.inr ⟨hd, fun i _ hi => by simp at hi⟩
  | a :: sg, [], h, j, d, hd => Or.inr ⟨hd, fun i hl => by simp at hl⟩
  | a :: sg, c :: cs, h, j, d, hd => by
    rcases zpt_get sg cs (h.set a c) j d hd with ⟨i, h1, h2⟩ | ⟨h1, h2⟩
    · exact Or.inl ⟨i + 1, by simpa using h1, by simpa using h2⟩
    · by_cases e : a = j
      · subst e
        have hl : a < (h.set a c).length := (List.getElem?_eq_some_iff.mp h1).1
        rw [List.getElem?_set_self (by simpa using hl)] at h1
        exact Or.inl ⟨0, rfl, by simpa using h1⟩
      · rw [List.getElem?_set_ne e] at h1
        refine Or.inr ⟨h1, fun i hl hi => ?_⟩
        cases i with
        | zero => simp at hi; exact e hi
        | succ i => exact h2 i (by simpa using hl) (by simpa using hi)
theorem zsi_get {sg : List Nat} {i j : Nat} (h : sg[i]? = some j) : zsi sg i = j := by
  unfold zsi
  rw [zg_eq, h]
theorem zsi_big {sg : List Nat} {i : Nat} (h : sg.length ≤ 1000) (hi : 1000 ≤ i) : zsi sg i = i := by
  unfold zsi
  rw [zg_eq, List.getElem?_eq_none (by omega)]
theorem z_sub_P {D : va_G} {cA : Nat → ClassId} {ad : Nat → Nat} {sg : List Nat} {h hc : List ZC} {H : Heap} (hq : zsub sg h sg hc) (hP : va_P D vwCl (zW cA ad h) H) : va_P D vwCl (zW cA (zad ad sg) hc) H := by
  intro k q hk
  obtain ⟨c, hc1, rfl⟩ := zW_inv hk
  obtain ⟨j, h1, h2⟩ := zsub_get sg hc hq k c hc1
  have h3 := hP j _ (zW_get h2)
  rw [zce_rn] at h3
  have e : zad ad sg k = ad j := by unfold zad; rw [zsi_get h1]
  rw [e]
  exact h3
theorem z_sub_D {cA : Nat → ClassId} {ad : Nat → Nat} {A : Nat → Prop} {sg : List Nat} {h hc : List ZC} (hq : zsub sg h sg hc) (hn : va_nd sg = true) (hD : va_D A (zW cA ad h)) : va_D A (zW cA (zad ad sg) hc) := by
  refine ⟨fun i j p q hi hj hpq => ?_, fun k q hk => ?_⟩
  · obtain ⟨c, h1, rfl⟩ := zW_inv hi
    obtain ⟨d, h2, rfl⟩ := zW_inv hj
    obtain ⟨i', a1, a2⟩ := zsub_get sg hc hq i c h1
    obtain ⟨j', b1, b2⟩ := zsub_get sg hc hq j d h2
    have e : ad i' = ad j' := by
      have := hpq
      simp only [zad, zsi_get a1, zsi_get b1] at this
      exact this
    have e2 := hD.1 i' j' _ _ (zW_get a2) (zW_get b2) e
    subst e2
    exact va_nd_inj sg hn i j i' a1 b1
  · obtain ⟨c, h1, rfl⟩ := zW_inv hk
    obtain ⟨i', a1, a2⟩ := zsub_get sg hc hq k c h1
    have e : zad ad sg k = ad i' := by unfold zad; rw [zsi_get a1]
    show A (zad ad sg k)
    rw [e]
    exact hD.2 i' _ (zW_get a2)
theorem z_back_P {D : va_G} {cA : Nat → ClassId} {ad : Nat → Nat} {A : Nat → Prop} {sg : List Nat} {h hc hc2 : List ZC} {H H1 : Heap} (hq : zsub sg h sg hc) (hl : hc2.length = hc.length) (hP : va_P D vwCl (zW cA ad h) H) (hD : va_D A (zW cA ad h)) (hP1 : va_P D vwCl (zW cA (zad ad sg) hc2) H1) (hk1 : ∀ q : Nat, q < H.size → ¬ zA (zad ad sg) hc.length q → H1[q]? = H[q]?) : va_P D vwCl (zW cA ad (zpt sg (hc2.map (zrn sg)) h)) H1 := by
  intro k q hk
  obtain ⟨d, h1, rfl⟩ := zW_inv hk
  rcases zpt_get _ _ _ _ _ h1 with ⟨i, a1, a2⟩ | ⟨a1, a2⟩
  · rw [List.getElem?_map] at a2
    obtain ⟨c, c1, rfl⟩ := Option.map_eq_some_iff.mp a2
    have h3 := hP1 i _ (zW_get c1)
    rw [zce_rn]
    have e : zad ad sg i = ad k := by unfold zad; rw [zsi_get a1]
    rw [e] at h3
    exact h3
  · have h3 := hP k _ (zW_get a1)
    refine h3.kept (hk1 _ h3.lt ?_)
    rintro ⟨i, i1, i2⟩
    have hlen := zsub_len sg hc hq
    have hi : sg[i]? = some sg[i] := List.getElem?_eq_getElem (by omega)
    have hci : hc[i]? = some hc[i] := List.getElem?_eq_getElem i1
    obtain ⟨j, b1, b2⟩ := zsub_get sg hc hq i _ hci
    have e : ad k = ad j := by
      have := i2
      simp only [zad, zsi_get b1] at this
      exact this
    have e2 := hD.1 k j _ _ (zW_get a1) (zW_get b2) e
    subst e2
    exact a2 i (by rw [List.length_map, hl]; exact i1) b1
section ZC3
variable {own : Nat} {cc : ByteArray} {code : List (Nat × Nat × Instr)} {nL fr lo : Nat} {R1 : Int32 → List ZC → Prop} {R0 : List ZC → Prop} {C : ZP}
variable {y : MethodName} {ccc : ByteArray} {nLc : Nat} {ret : Option FieldType} {n frc loc idx : Nat} {As rest : List Value} {h hx hx2 : List ZC} {b pc : Nat} {rv : Option Value} {ls : List (Option Value)}
theorem zcallVs (sg : List Nat) (hC : zR own cc code nL fr lo R1 R0 C) (hM : ZM y ccc nLc ret frc loc (.ref b :: As) hx rv hx2) (hq : zsub sg h sg hx) (hnd : va_nd sg = true) (hsz : sg.length ≤ 1000) (hc : zcV y ccc nLc ret n) (hl : Cond.methodLink (zcn own) idx y ∈ zt) (hd : decode cc pc = .ok (.invokevirtual idx, 3)) (hn : As.length = n) (hls : ls.length = nL) (hrc : zrc hx b = some y.cls) (hfr : frc + 1 ≤ fr) (hlo : 8 + (nLc + 11) + loc ≤ lo) (hcat : (rest.map fun v => v.category).sum ≤ 8)
    (k : C (pc + 3) ls ((rv.map (zrv sg)).toList ++ rest) (zpt sg (hx2.map (zrn sg)) h)) : C pc ls ((As.map (zrv sg)).reverse ++ .ref (zsi sg b) :: rest) h := by
  obtain ⟨p, l, e, R, s, m, args, below, meth, c, Q, D, cA, ad, A, F, hK, hck, hfr2, hlo2, hR1, hR0, rfl⟩ := hC
  obtain ⟨c1, c2, c3, c4, c5⟩ := hc
  obtain ⟨ci, fs, g1, g2, g3⟩ := zrc_inv hrc
  intro H locs la hP hD hS hL
  have hst : ((As.map (zrv sg)).reverse ++ .ref (zsi sg b) :: rest).map (zv ad) = (As.map (zv (zad ad sg))).reverse ++ .ref (zad ad sg b) :: rest.map (zv ad) := by
    simp only [List.map_append, List.map_reverse, List.map_map, List.map_cons]
    congr 2
    apply List.map_congr_left
    intro v _
    exact zv_rv ad sg v
  rw [hst]
  have hG : GoodIn zt (wsV (zcn own) idx y.cls y (.code y ccc nLc ret :: zt)) := zt_good2 (fun w hw => by
    unfold wsV at hw
    rcases List.mem_append.mp hw with hw | hw
    · simp only [List.mem_cons, List.not_mem_nil, or_false] at hw
      rcases hw with rfl | rfl | rfl | rfl
      · exact hl
      · exact c1
      · exact c2
      · exact c3
    · rcases List.mem_cons.mp hw with rfl | hw
      · exact c4
      · exact hw)
  have hPs := z_sub_P hq hP
  have hDs := z_sub_D hq hnd hD
  refine z_core (A1 := zA (zad ad sg) hx.length) (PP := va_P D vwCl (zW cA (zad ad sg) hx2)) (va_runV (As := As.map (zv (zad ad sg))) (rest := rest.map (zv ad)) F (hM.2 l D cA (zad ad sg)) (cwV n F.2.2.2.2 hG rfl rfl rfl ⟨rfl, c5⟩ ⟨by simpa using Nat.le_trans hfr hfr2, by simpa using Nat.le_trans hlo hlo2⟩) ⟨zPc_blind, ?_, fun U hU hW => ⟨rfl, by rw [hU]; exact hPs, zE.to hK hS hU hW (zA_sub hDs) (by unfold zad; rw [zsi_big hsz (by omega)]) (by unfold zad; rw [zsi_big hsz (by omega)]), hDs.weaken (fun _ _ _ _ => trivial)⟩⟩ rfl (by rw [List.length_map]; exact hn) (by rw [← hls]; exact hL.1) rfl (lv_room (by rw [zcat_eq]; exact hcat)) hd ⟨Nat.zero_le _, Nat.zero_le _⟩) (fun st oc t hq => hq) hS (zA_sub hDs) (zA_sub hDs) (fun H1 locs1 hP1 hk1 hS1 => ?_)
  · have hv := va_recv hK.1 hPs (zc_cl ci g2) (zW_get g1)
    rw [g3] at hv
    exact hv
  · have e : (rv.map (zv (zad ad sg))).toList ++ rest.map (zv ad) = ((rv.map (zrv sg)).toList ++ rest).map (zv ad) := by
      cases rv <;> simp [zv_rv]
    rw [e]
    exact k H1 locs1 la (z_back_P hq hM.1 hP hD hP1 hk1) (zD_len (zpt_len _ _ _) hD) hS1 hL
/-- System.arraycopy between arrays of ints -/
theorem zcopy (hC : zR own cc code nL fr lo R1 R0 C) (hl : Cond.methodLink (zcn own) idx arraycopyName ∈ zt) (hd : decode cc pc = .ok (.invokestatic idx, 3)) (hls : ls.length = nL) {a0 a1 n0 n1 : Nat} {f g : Nat → Int32} (h0 : zg h a0 = some (.inl (0, n0, f))) (h1 : zg h a1 = some (.inl (0, n1, g))) {N : Nat} (h2 : N ≤ n0) (h3 : N ≤ n1) (hN : N < 2 ^ 31) (hfr : 1 ≤ fr) (hlo : (rest.map fun v => v.category).sum + (nativeFrameWords "java/lang/System" "arraycopy" 5 + 11) ≤ lo)
    (k : C (pc + 3) ls rest (h.set a1 (.inl (0, n1, va_cpy f g 0 0 N)))) : C pc ls (.int (nI N) :: .int (nI 0) :: .ref a1 :: .int (nI 0) :: .ref a0 :: rest) h := by
  obtain ⟨p, l, e, R, s, m, args, below, meth, c, Q, D, cA, ad, A, F, hK, hck, hfr2, hlo2, hR1, hR0, rfl⟩ := hC
  rw [zg_eq] at h0 h1
  intro H locs la hP hD hS hL
  have w1 : Cond.native arraycopyName ∈ zt := by decide +kernel
  have w2 : Cond.static arraycopyName ∈ zt := by decide +kernel
  have w3 : Cond.initialized "java/lang/System" ∈ zt := by decide +kernel
  have z0 : (nI 0).toNatClampNeg = 0 := rfl
  have zN : (nI N).toNatClampNeg = N := nI_clamp hN
  refine va_copyi F.1 F.2.1 (by rw [F.2.2.1, ← hls]; exact hL.1.symm) F.2.2.2.1 (F.2.2.2.2 _ hl) (F.2.2.2.2 _ w1) (F.2.2.2.2 _ w2) (F.2.2.2.2 _ w3) hK.1 hP hD hS a0 a1 0 0 (zW_get h0) (zW_get h1) rfl rfl rfl (nI_pos (by omega)) (nI_pos (by omega)) (nI_pos hN) (by rw [z0, zN]; show 0 + N ≤ n0; omega) (by rw [z0, zN]; show 0 + N ≤ n1; omega) (fun _ _ => rfl) (Nat.le_trans hfr hfr2) (by rw [zcat_eq]; exact Nat.le_trans hlo hlo2) hd (fun H1 locs1 hP1 hD1 hS1 => ?_)
  rw [z0, zN] at hP1 hD1
  have e1 : (zW cA ad h).set a1 (ad a1, .inl (cA 0, n1, .inl (va_cpy f g 0 0 N))) = zW cA ad (h.set a1 (.inl (0, n1, va_cpy f g 0 0 N))) := by
    rw [← zW_set]
    rfl
  exact k H1 locs1 la (by rw [← e1]; exact hP1) (by rw [← e1]; exact hD1) hS1 hL
/-- the two tables of the class -/
theorem zgets0 (hC : zR 3 cc code nL fr lo R1 R0 C) (hd : decode cc pc = .ok (.getstatic 38, 3)) (k : C (pc + 3) ls (.ref 1000 :: rest) h) : C pc ls rest h := by
  obtain ⟨p, l, e, R, s, m, args, below, meth, c, Q, D, cA, ad, A, F, hK, hck, hfr2, hlo2, hR1, hR0, rfl⟩ := hC
  intro H locs la hP hD hS hL
  have w : Cond.fieldLink RX3 38 "RepealedLaws" "LEAST_VALUES" "[I" ∈ zt := by decide +kernel
  exact va_gets F.1 F.2.1 hK.2.2.1.1 hS F.2.2.2.1 (F.2.2.2.2 _ w) (fun _ hx => hx) hd (k H locs la hP hD hS hL)
theorem zgets1 (hC : zR 3 cc code nL fr lo R1 R0 C) (hd : decode cc pc = .ok (.getstatic 42, 3)) (k : C (pc + 3) ls (.ref 1001 :: rest) h) : C pc ls rest h := by
  obtain ⟨p, l, e, R, s, m, args, below, meth, c, Q, D, cA, ad, A, F, hK, hck, hfr2, hlo2, hR1, hR0, rfl⟩ := hC
  intro H locs la hP hD hS hL
  have w : Cond.fieldLink RX3 42 "RepealedLaws" "GREATEST_VALUES" "[I" ∈ zt := by decide +kernel
  exact va_gets F.1 F.2.1 hK.2.2.2.1 hS F.2.2.2.1 (F.2.2.2.2 _ w) (fun _ hx => hx) hd (k H locs la hP hD hS hL)
theorem ztab0 (hC : zR own cc code nL fr lo R1 R0 C) (hd : decode cc pc = .ok (.iaload, 1)) {i v : Int32} (hi : vp_in i 3) (hv : zleast i.toNatClampNeg = .int v) (k : C (pc + 1) ls (.int v :: rest) h) : C pc ls (.int i :: .ref 1000 :: rest) h := by
  obtain ⟨p, l, e, R, s, m, args, below, meth, c, Q, D, cA, ad, A, F, hK, hck, hfr2, hlo2, hR1, hR0, rfl⟩ := hC
  intro H locs la hP hD hS hL
  exact va_ti F.1 F.2.1 hK.2.2.1.2 hS hi hv hd (k H locs la hP hD hS hL)
theorem ztab1 (hC : zR own cc code nL fr lo R1 R0 C) (hd : decode cc pc = .ok (.iaload, 1)) {i v : Int32} (hi : vp_in i 3) (hv : zgreat i.toNatClampNeg = .int v) (k : C (pc + 1) ls (.int v :: rest) h) : C pc ls (.int i :: .ref 1001 :: rest) h := by
  obtain ⟨p, l, e, R, s, m, args, below, meth, c, Q, D, cA, ad, A, F, hK, hck, hfr2, hlo2, hR1, hR0, rfl⟩ := hC
  intro H locs la hP hD hS hL
  exact va_ti F.1 F.2.1 hK.2.2.2.2 hS hi hv hd (k H locs la hP hD hS hL)
/-- a table switch: the answer is its table's, or the default -/
theorem zsw (hC : zR own cc code nL fr lo R1 R0 C) {dflt lw hi : Int} {offs : Array Int} {len : Nat} {x : Int32} {r : List Value} (hd : decode cc pc = .ok (.tableswitch dflt lw hi offs, len)) {tgt : Nat} (ht : if x.toInt < lw ∨ hi < x.toInt then (pc : Int) + dflt = (tgt : Int) else ∃ off, offs[(x.toInt - lw).toNat]? = some off ∧ (pc : Int) + off = (tgt : Int))
    (k : C tgt ls r h) : C pc ls (.int x :: r) h := by
  obtain ⟨p, l, e, R, s, m, args, below, meth, c, Q, D, cA, ad, A, F, hK, hck, hfr2, hlo2, hR1, hR0, rfl⟩ := hC
  intro H locs la hP hD hS hL
  split at ht
  · rename_i hq
    exact lv_tableOut F.1 F.2.1 hd hq ht (k H locs la hP hD hS hL)
  · rename_i hq
    obtain ⟨off, h1, h2⟩ := ht
    exact lv_tableIn F.1 F.2.1 hd (fun q => hq (Or.inl q)) (fun q => hq (Or.inr q)) h1 h2 (k H locs la hP hD hS hL)
theorem zlsw (hC : zR own cc code nL fr lo R1 R0 C) {dflt : Int} {ps : Array (Int × Int)} {len : Nat} {x : Int32} {r : List Value} (hd : decode cc pc = .ok (.lookupswitch dflt ps, len)) (hp : (ps.toList.zip (ps.toList.drop 1)).all (fun (a, next) => a.1 < next.1) = true) {tgt : Nat} (ht : (pc : Int) + Op.lookupswitch.offset ps.toList dflt x.toInt = (tgt : Int))
    (k : C tgt ls r h) : C pc ls (.int x :: r) h := by
  obtain ⟨p, l, e, R, s, m, args, below, meth, c, Q, D, cA, ad, A, F, hK, hck, hfr2, hlo2, hR1, hR0, rfl⟩ := hC
  intro H locs la hP hD hS hL
  exact lv_lookup F.1 F.2.1 hd hp rfl ht (k H locs la hP hD hS hL)
end ZC3
end
