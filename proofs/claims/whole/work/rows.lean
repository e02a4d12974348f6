section
-- ===== PART A: goes FIRST, ahead of the names: the tables' words, and 'selects' of the private methods out of them =====
/-- a private method of a class that the tables say can be made, by its rows of tables_1 -/
def lw_okq (q : MethodName × Nat) : Prop := (q.1.cls ≠ "java/lang/invoke/MethodHandle" ∧ q.1.cls ≠ "java/lang/invoke/VarHandle") ∧ Cond.instantiable q.1.cls q.2 ∈ tables_1 ∧ Cond.privateMethod q.1 ∈ tables_1 ∧ Cond.instanceMethod q.1 ∈ tables_1
theorem lw_p0 : lw_okq (⟨"LineOrigins$Reader", "takes", "(LLineOrigins$Text;ILLineOrigins$Revisions;)Z"⟩, 1) := ⟨⟨by decide +kernel, by decide +kernel⟩, List.mem_of_getElem? (i := 39) (by decide +kernel), List.mem_of_getElem? (i := 282) (by decide +kernel), List.mem_of_getElem? (i := 283) (by decide +kernel)⟩
theorem lw_p1 : lw_okq (⟨"LineOrigins$Reader", "takesRevision", "(LLineOrigins$Revisions;)Z"⟩, 1) := ⟨⟨by decide +kernel, by decide +kernel⟩, List.mem_of_getElem? (i := 39) (by decide +kernel), List.mem_of_getElem? (i := 286) (by decide +kernel), List.mem_of_getElem? (i := 287) (by decide +kernel)⟩
theorem lw_p2 : lw_okq (⟨"LineOrigins$Reader", "takesColon", "()Z"⟩, 1) := ⟨⟨by decide +kernel, by decide +kernel⟩, List.mem_of_getElem? (i := 39) (by decide +kernel), List.mem_of_getElem? (i := 294) (by decide +kernel), List.mem_of_getElem? (i := 295) (by decide +kernel)⟩
theorem lw_p3 : lw_okq (⟨"LineOrigins$Reader", "takesEnd", "(LLineOrigins$Revisions;)Z"⟩, 1) := ⟨⟨by decide +kernel, by decide +kernel⟩, List.mem_of_getElem? (i := 39) (by decide +kernel), List.mem_of_getElem? (i := 298) (by decide +kernel), List.mem_of_getElem? (i := 299) (by decide +kernel)⟩
theorem lw_p4 : lw_okq (⟨"LineOrigins$Pairing", "becomeUnpaired", "(I)V"⟩, 6) := ⟨⟨by decide +kernel, by decide +kernel⟩, List.mem_of_getElem? (i := 74) (by decide +kernel), List.mem_of_getElem? (i := 341) (by decide +kernel), List.mem_of_getElem? (i := 342) (by decide +kernel)⟩
theorem lw_p5 : lw_okq (⟨"LineOrigins$Pairing", "fillTable", "(LLineOrigins$Revisions;II)V"⟩, 6) := ⟨⟨by decide +kernel, by decide +kernel⟩, List.mem_of_getElem? (i := 74) (by decide +kernel), List.mem_of_getElem? (i := 350) (by decide +kernel), List.mem_of_getElem? (i := 351) (by decide +kernel)⟩
theorem lw_p6 : lw_okq (⟨"LineOrigins$Pairing", "commonFrom", "(II)I"⟩, 6) := ⟨⟨by decide +kernel, by decide +kernel⟩, List.mem_of_getElem? (i := 74) (by decide +kernel), List.mem_of_getElem? (i := 366) (by decide +kernel), List.mem_of_getElem? (i := 367) (by decide +kernel)⟩
theorem lw_p7 : lw_okq (⟨"LineOrigins$Pairing", "setCommonFrom", "(III)V"⟩, 6) := ⟨⟨by decide +kernel, by decide +kernel⟩, List.mem_of_getElem? (i := 74) (by decide +kernel), List.mem_of_getElem? (i := 373) (by decide +kernel), List.mem_of_getElem? (i := 374) (by decide +kernel)⟩
theorem lw_p8 : lw_okq (⟨"LineOrigins$Pairing", "walk", "(LLineOrigins$Revisions;II)V"⟩, 6) := ⟨⟨by decide +kernel, by decide +kernel⟩, List.mem_of_getElem? (i := 74) (by decide +kernel), List.mem_of_getElem? (i := 377) (by decide +kernel), List.mem_of_getElem? (i := 378) (by decide +kernel)⟩
theorem lw_p9 : lw_okq (⟨"LineOrigins$Pairing", "setPair", "(III)V"⟩, 6) := ⟨⟨by decide +kernel, by decide +kernel⟩, List.mem_of_getElem? (i := 74) (by decide +kernel), List.mem_of_getElem? (i := 381) (by decide +kernel), List.mem_of_getElem? (i := 382) (by decide +kernel)⟩
theorem lw_p10 : lw_okq (⟨"LineOrigins$Moves", "workOutOne", "(LLineOrigins$Revisions;LLineOrigins$Pairing;I)V"⟩, 2) := ⟨⟨by decide +kernel, by decide +kernel⟩, List.mem_of_getElem? (i := 99) (by decide +kernel), List.mem_of_getElem? (i := 393) (by decide +kernel), List.mem_of_getElem? (i := 394) (by decide +kernel)⟩
theorem lw_p11 : lw_okq (⟨"LineOrigins$Moves", "offer", "(IIII)V"⟩, 2) := ⟨⟨by decide +kernel, by decide +kernel⟩, List.mem_of_getElem? (i := 99) (by decide +kernel), List.mem_of_getElem? (i := 411) (by decide +kernel), List.mem_of_getElem? (i := 412) (by decide +kernel)⟩
theorem lw_p12 : lw_okq (⟨"LineOrigins", "traceAnew", "()V"⟩, 12) := ⟨⟨by decide +kernel, by decide +kernel⟩, List.mem_of_getElem? (i := 17) (by decide +kernel), List.mem_of_getElem? (i := 444) (by decide +kernel), List.mem_of_getElem? (i := 445) (by decide +kernel)⟩
theorem lw_p13 : lw_okq (⟨"LineOrigins$Traces", "followOne", "(LLineOrigins$Parentage;LLineOrigins$Settings;II)V"⟩, 3) := ⟨⟨by decide +kernel, by decide +kernel⟩, List.mem_of_getElem? (i := 151) (by decide +kernel), List.mem_of_getElem? (i := 458) (by decide +kernel), List.mem_of_getElem? (i := 459) (by decide +kernel)⟩
theorem lw_p14 : lw_okq (⟨"LineOrigins$Parentage", "sourceBy", "(IIILLineOrigins$Settings;)I"⟩, 4) := ⟨⟨by decide +kernel, by decide +kernel⟩, List.mem_of_getElem? (i := 68) (by decide +kernel), List.mem_of_getElem? (i := 475) (by decide +kernel), List.mem_of_getElem? (i := 476) (by decide +kernel)⟩
theorem lw_p15 : lw_okq (⟨"LineOrigins$Changes", "loseOldest", "()V"⟩, 2) := ⟨⟨by decide +kernel, by decide +kernel⟩, List.mem_of_getElem? (i := 167) (by decide +kernel), List.mem_of_getElem? (i := 546) (by decide +kernel), List.mem_of_getElem? (i := 547) (by decide +kernel)⟩
def lw_privs_1 : List (MethodName × Nat) := [(⟨"LineOrigins$Reader", "takes", "(LLineOrigins$Text;ILLineOrigins$Revisions;)Z"⟩, 1), (⟨"LineOrigins$Reader", "takesRevision", "(LLineOrigins$Revisions;)Z"⟩, 1), (⟨"LineOrigins$Reader", "takesColon", "()Z"⟩, 1), (⟨"LineOrigins$Reader", "takesEnd", "(LLineOrigins$Revisions;)Z"⟩, 1), (⟨"LineOrigins$Pairing", "becomeUnpaired", "(I)V"⟩, 6), (⟨"LineOrigins$Pairing", "fillTable", "(LLineOrigins$Revisions;II)V"⟩, 6), (⟨"LineOrigins$Pairing", "commonFrom", "(II)I"⟩, 6), (⟨"LineOrigins$Pairing", "setCommonFrom", "(III)V"⟩, 6), (⟨"LineOrigins$Pairing", "walk", "(LLineOrigins$Revisions;II)V"⟩, 6), (⟨"LineOrigins$Pairing", "setPair", "(III)V"⟩, 6), (⟨"LineOrigins$Moves", "workOutOne", "(LLineOrigins$Revisions;LLineOrigins$Pairing;I)V"⟩, 2), (⟨"LineOrigins$Moves", "offer", "(IIII)V"⟩, 2), (⟨"LineOrigins", "traceAnew", "()V"⟩, 12), (⟨"LineOrigins$Traces", "followOne", "(LLineOrigins$Parentage;LLineOrigins$Settings;II)V"⟩, 3), (⟨"LineOrigins$Parentage", "sourceBy", "(IIILLineOrigins$Settings;)I"⟩, 4), (⟨"LineOrigins$Changes", "loseOldest", "()V"⟩, 2)]
theorem lw_r1 : ∀ q ∈ lw_privs_1, lw_okq q := List.forall_mem_cons.mpr ⟨lw_p0, List.forall_mem_cons.mpr ⟨lw_p1, List.forall_mem_cons.mpr ⟨lw_p2, List.forall_mem_cons.mpr ⟨lw_p3, List.forall_mem_cons.mpr ⟨lw_p4, List.forall_mem_cons.mpr ⟨lw_p5, List.forall_mem_cons.mpr ⟨lw_p6, List.forall_mem_cons.mpr ⟨lw_p7, List.forall_mem_cons.mpr ⟨lw_p8, List.forall_mem_cons.mpr ⟨lw_p9, List.forall_mem_cons.mpr ⟨lw_p10, List.forall_mem_cons.mpr ⟨lw_p11, List.forall_mem_cons.mpr ⟨lw_p12, List.forall_mem_cons.mpr ⟨lw_p13, List.forall_mem_cons.mpr ⟨lw_p14, List.forall_mem_cons.mpr ⟨lw_p15, fun _ h => absurd h List.not_mem_nil⟩⟩⟩⟩⟩⟩⟩⟩⟩⟩⟩⟩⟩⟩⟩⟩
theorem lw_p16 : lw_okq (⟨"LineOrigins", "olderOnes", "(II)I"⟩, 12) := ⟨⟨by decide +kernel, by decide +kernel⟩, List.mem_of_getElem? (i := 17) (by decide +kernel), List.mem_of_getElem? (i := 600) (by decide +kernel), List.mem_of_getElem? (i := 601) (by decide +kernel)⟩
theorem lw_p17 : lw_okq (⟨"LineOrigins", "linesFrom", "(II)I"⟩, 12) := ⟨⟨by decide +kernel, by decide +kernel⟩, List.mem_of_getElem? (i := 17) (by decide +kernel), List.mem_of_getElem? (i := 608) (by decide +kernel), List.mem_of_getElem? (i := 609) (by decide +kernel)⟩
theorem lw_p18 : lw_okq (⟨"LineOrigins", "ownOrigins", "()I"⟩, 12) := ⟨⟨by decide +kernel, by decide +kernel⟩, List.mem_of_getElem? (i := 17) (by decide +kernel), List.mem_of_getElem? (i := 682) (by decide +kernel), List.mem_of_getElem? (i := 683) (by decide +kernel)⟩
theorem lw_p19 : lw_okq (⟨"LineOriginsModel", "begin", "()V"⟩, 27) := ⟨⟨by decide +kernel, by decide +kernel⟩, List.mem_of_getElem? (i := 686) (by decide +kernel), List.mem_of_getElem? (i := 692) (by decide +kernel), List.mem_of_getElem? (i := 693) (by decide +kernel)⟩
theorem lw_p20 : lw_okq (⟨"LineOriginsModel", "next", "()V"⟩, 27) := ⟨⟨by decide +kernel, by decide +kernel⟩, List.mem_of_getElem? (i := 686) (by decide +kernel), List.mem_of_getElem? (i := 794) (by decide +kernel), List.mem_of_getElem? (i := 795) (by decide +kernel)⟩
theorem lw_p21 : lw_okq (⟨"LineOriginsModel", "takesItem", "()Z"⟩, 27) := ⟨⟨by decide +kernel, by decide +kernel⟩, List.mem_of_getElem? (i := 686) (by decide +kernel), List.mem_of_getElem? (i := 802) (by decide +kernel), List.mem_of_getElem? (i := 803) (by decide +kernel)⟩
theorem lw_p22 : lw_okq (⟨"LineOriginsModel", "faults", "()Z"⟩, 27) := ⟨⟨by decide +kernel, by decide +kernel⟩, List.mem_of_getElem? (i := 686) (by decide +kernel), List.mem_of_getElem? (i := 806) (by decide +kernel), List.mem_of_getElem? (i := 807) (by decide +kernel)⟩
theorem lw_p23 : lw_okq (⟨"LineOriginsModel", "takesParents", "(I)Z"⟩, 27) := ⟨⟨by decide +kernel, by decide +kernel⟩, List.mem_of_getElem? (i := 686) (by decide +kernel), List.mem_of_getElem? (i := 810) (by decide +kernel), List.mem_of_getElem? (i := 811) (by decide +kernel)⟩
theorem lw_p24 : lw_okq (⟨"LineOriginsModel", "layPairs", "(II)V"⟩, 27) := ⟨⟨by decide +kernel, by decide +kernel⟩, List.mem_of_getElem? (i := 686) (by decide +kernel), List.mem_of_getElem? (i := 814) (by decide +kernel), List.mem_of_getElem? (i := 815) (by decide +kernel)⟩
theorem lw_p25 : lw_okq (⟨"LineOriginsModel", "layCommon", "(II)V"⟩, 27) := ⟨⟨by decide +kernel, by decide +kernel⟩, List.mem_of_getElem? (i := 686) (by decide +kernel), List.mem_of_getElem? (i := 818) (by decide +kernel), List.mem_of_getElem? (i := 819) (by decide +kernel)⟩
theorem lw_p26 : lw_okq (⟨"LineOriginsModel", "letterOf", "(II)I"⟩, 27) := ⟨⟨by decide +kernel, by decide +kernel⟩, List.mem_of_getElem? (i := 686) (by decide +kernel), List.mem_of_getElem? (i := 822) (by decide +kernel), List.mem_of_getElem? (i := 823) (by decide +kernel)⟩
theorem lw_p27 : lw_okq (⟨"LineOriginsModel", "isRevision", "(I)Z"⟩, 27) := ⟨⟨by decide +kernel, by decide +kernel⟩, List.mem_of_getElem? (i := 686) (by decide +kernel), List.mem_of_getElem? (i := 830) (by decide +kernel), List.mem_of_getElem? (i := 831) (by decide +kernel)⟩
theorem lw_p28 : lw_okq (⟨"LineOriginsModel", "isLine", "(II)Z"⟩, 27) := ⟨⟨by decide +kernel, by decide +kernel⟩, List.mem_of_getElem? (i := 686) (by decide +kernel), List.mem_of_getElem? (i := 841) (by decide +kernel), List.mem_of_getElem? (i := 842) (by decide +kernel)⟩
theorem lw_p29 : lw_okq (⟨"LineOriginsModel", "lay", "()V"⟩, 27) := ⟨⟨by decide +kernel, by decide +kernel⟩, List.mem_of_getElem? (i := 686) (by decide +kernel), List.mem_of_getElem? (i := 845) (by decide +kernel), List.mem_of_getElem? (i := 846) (by decide +kernel)⟩
theorem lw_p30 : lw_okq (⟨"LineOriginsModel", "ruleOf", "(II)I"⟩, 27) := ⟨⟨by decide +kernel, by decide +kernel⟩, List.mem_of_getElem? (i := 686) (by decide +kernel), List.mem_of_getElem? (i := 849) (by decide +kernel), List.mem_of_getElem? (i := 850) (by decide +kernel)⟩
theorem lw_p31 : lw_okq (⟨"LineOriginsModel", "givenBy", "(III)I"⟩, 27) := ⟨⟨by decide +kernel, by decide +kernel⟩, List.mem_of_getElem? (i := 686) (by decide +kernel), List.mem_of_getElem? (i := 853) (by decide +kernel), List.mem_of_getElem? (i := 854) (by decide +kernel)⟩
def lw_privs_2 : List (MethodName × Nat) := [(⟨"LineOrigins", "olderOnes", "(II)I"⟩, 12), (⟨"LineOrigins", "linesFrom", "(II)I"⟩, 12), (⟨"LineOrigins", "ownOrigins", "()I"⟩, 12), (⟨"LineOriginsModel", "begin", "()V"⟩, 27), (⟨"LineOriginsModel", "next", "()V"⟩, 27), (⟨"LineOriginsModel", "takesItem", "()Z"⟩, 27), (⟨"LineOriginsModel", "faults", "()Z"⟩, 27), (⟨"LineOriginsModel", "takesParents", "(I)Z"⟩, 27), (⟨"LineOriginsModel", "layPairs", "(II)V"⟩, 27), (⟨"LineOriginsModel", "layCommon", "(II)V"⟩, 27), (⟨"LineOriginsModel", "letterOf", "(II)I"⟩, 27), (⟨"LineOriginsModel", "isRevision", "(I)Z"⟩, 27), (⟨"LineOriginsModel", "isLine", "(II)Z"⟩, 27), (⟨"LineOriginsModel", "lay", "()V"⟩, 27), (⟨"LineOriginsModel", "ruleOf", "(II)I"⟩, 27), (⟨"LineOriginsModel", "givenBy", "(III)I"⟩, 27)]
theorem lw_r2 : ∀ q ∈ lw_privs_2, lw_okq q := List.forall_mem_cons.mpr ⟨lw_p16, List.forall_mem_cons.mpr ⟨lw_p17, List.forall_mem_cons.mpr ⟨lw_p18, List.forall_mem_cons.mpr ⟨lw_p19, List.forall_mem_cons.mpr ⟨lw_p20, List.forall_mem_cons.mpr ⟨lw_p21, List.forall_mem_cons.mpr ⟨lw_p22, List.forall_mem_cons.mpr ⟨lw_p23, List.forall_mem_cons.mpr ⟨lw_p24, List.forall_mem_cons.mpr ⟨lw_p25, List.forall_mem_cons.mpr ⟨lw_p26, List.forall_mem_cons.mpr ⟨lw_p27, List.forall_mem_cons.mpr ⟨lw_p28, List.forall_mem_cons.mpr ⟨lw_p29, List.forall_mem_cons.mpr ⟨lw_p30, List.forall_mem_cons.mpr ⟨lw_p31, fun _ h => absurd h List.not_mem_nil⟩⟩⟩⟩⟩⟩⟩⟩⟩⟩⟩⟩⟩⟩⟩⟩
theorem lw_p32 : lw_okq (⟨"LineOriginsModel", "pairOf", "(III)I"⟩, 27) := ⟨⟨by decide +kernel, by decide +kernel⟩, List.mem_of_getElem? (i := 686) (by decide +kernel), List.mem_of_getElem? (i := 857) (by decide +kernel), List.mem_of_getElem? (i := 858) (by decide +kernel)⟩
theorem lw_p33 : lw_okq (⟨"LineOriginsModel", "movedOf", "(II)I"⟩, 27) := ⟨⟨by decide +kernel, by decide +kernel⟩, List.mem_of_getElem? (i := 686) (by decide +kernel), List.mem_of_getElem? (i := 861) (by decide +kernel), List.mem_of_getElem? (i := 862) (by decide +kernel)⟩
theorem lw_p34 : lw_okq (⟨"LineOriginsModel", "rowFrom", "(IIII)I"⟩, 27) := ⟨⟨by decide +kernel, by decide +kernel⟩, List.mem_of_getElem? (i := 686) (by decide +kernel), List.mem_of_getElem? (i := 865) (by decide +kernel), List.mem_of_getElem? (i := 866) (by decide +kernel)⟩
theorem lw_p35 : lw_okq (⟨"LineOriginsModel", "passedOf", "(II)I"⟩, 27) := ⟨⟨by decide +kernel, by decide +kernel⟩, List.mem_of_getElem? (i := 686) (by decide +kernel), List.mem_of_getElem? (i := 869) (by decide +kernel), List.mem_of_getElem? (i := 870) (by decide +kernel)⟩
theorem lw_p36 : lw_okq (⟨"LineOriginsModel", "told", "(II)I"⟩, 27) := ⟨⟨by decide +kernel, by decide +kernel⟩, List.mem_of_getElem? (i := 686) (by decide +kernel), List.mem_of_getElem? (i := 873) (by decide +kernel), List.mem_of_getElem? (i := 874) (by decide +kernel)⟩
theorem lw_p37 : lw_okq (⟨"LineOriginsModel", "note", "()V"⟩, 27) := ⟨⟨by decide +kernel, by decide +kernel⟩, List.mem_of_getElem? (i := 686) (by decide +kernel), List.mem_of_getElem? (i := 882) (by decide +kernel), List.mem_of_getElem? (i := 883) (by decide +kernel)⟩
theorem lw_p38 : lw_okq (⟨"LineOriginsModel", "linesOf", "(II)I"⟩, 27) := ⟨⟨by decide +kernel, by decide +kernel⟩, List.mem_of_getElem? (i := 686) (by decide +kernel), List.mem_of_getElem? (i := 915) (by decide +kernel), List.mem_of_getElem? (i := 916) (by decide +kernel)⟩
theorem lw_p39 : lw_okq (⟨"LineOriginsModel", "isSeenSo", "()Z"⟩, 27) := ⟨⟨by decide +kernel, by decide +kernel⟩, List.mem_of_getElem? (i := 686) (by decide +kernel), List.mem_of_getElem? (i := 943) (by decide +kernel), List.mem_of_getElem? (i := 944) (by decide +kernel)⟩
theorem lw_p40 : lw_okq (⟨"LineOriginsModel", "allLines", "()I"⟩, 27) := ⟨⟨by decide +kernel, by decide +kernel⟩, List.mem_of_getElem? (i := 686) (by decide +kernel), List.mem_of_getElem? (i := 959) (by decide +kernel), List.mem_of_getElem? (i := 960) (by decide +kernel)⟩
theorem lw_p41 : lw_okq (⟨"LineOriginsModel", "ownMany", "()I"⟩, 27) := ⟨⟨by decide +kernel, by decide +kernel⟩, List.mem_of_getElem? (i := 686) (by decide +kernel), List.mem_of_getElem? (i := 963) (by decide +kernel), List.mem_of_getElem? (i := 964) (by decide +kernel)⟩
def lw_privs_3 : List (MethodName × Nat) := [(⟨"LineOriginsModel", "pairOf", "(III)I"⟩, 27), (⟨"LineOriginsModel", "movedOf", "(II)I"⟩, 27), (⟨"LineOriginsModel", "rowFrom", "(IIII)I"⟩, 27), (⟨"LineOriginsModel", "passedOf", "(II)I"⟩, 27), (⟨"LineOriginsModel", "told", "(II)I"⟩, 27), (⟨"LineOriginsModel", "note", "()V"⟩, 27), (⟨"LineOriginsModel", "linesOf", "(II)I"⟩, 27), (⟨"LineOriginsModel", "isSeenSo", "()Z"⟩, 27), (⟨"LineOriginsModel", "allLines", "()I"⟩, 27), (⟨"LineOriginsModel", "ownMany", "()I"⟩, 27)]
theorem lw_r3 : ∀ q ∈ lw_privs_3, lw_okq q := List.forall_mem_cons.mpr ⟨lw_p32, List.forall_mem_cons.mpr ⟨lw_p33, List.forall_mem_cons.mpr ⟨lw_p34, List.forall_mem_cons.mpr ⟨lw_p35, List.forall_mem_cons.mpr ⟨lw_p36, List.forall_mem_cons.mpr ⟨lw_p37, List.forall_mem_cons.mpr ⟨lw_p38, List.forall_mem_cons.mpr ⟨lw_p39, List.forall_mem_cons.mpr ⟨lw_p40, List.forall_mem_cons.mpr ⟨lw_p41, fun _ h => absurd h List.not_mem_nil⟩⟩⟩⟩⟩⟩⟩⟩⟩⟩
def lw_privs : List (MethodName × Nat) := lw_privs_1 ++ (lw_privs_2 ++ (lw_privs_3))
def lw_tbl : List Cond := k2_sels lw_privs ++ tables_1
theorem lw_privs_ok : ∀ q ∈ lw_privs, lw_okq q := by
  show ∀ q ∈ lw_privs_1 ++ (lw_privs_2 ++ (lw_privs_3)), lw_okq q
  exact List.forall_mem_append.mpr ⟨lw_r1, List.forall_mem_append.mpr ⟨lw_r2, lw_r3⟩⟩
end
section
def RX0 : String := "LineOrigins$Changes"
def TX0 : u_T := fun k => match k with
  | 0 => ("LineOrigins$Changes", "codes", "[I", true)
  | _ => ("LineOrigins$Changes", "number", "I", false)
def tyX0 : Nat → FieldType := fun k => match k with
  | 0 => .array .int
  | _ => .int
theorem nmX0 : ∀ a, a < 2 → ∀ b, b < 2 → a ≠ b → (TX0 a).2.1 ≠ (TX0 b).2.1 := by decide +kernel
theorem tyX0_ok : ∀ k, k < 2 → parseFieldDescriptor (TX0 k).2.2.1 = some (tyX0 k) := by decide +kernel
def RX1 : String := "LineOrigins$Gaps"
def TX1 : u_T := fun k => match k with
  | _ => ("LineOrigins$Gaps", "sources", "[I", true)
def tyX1 : Nat → FieldType := fun k => match k with
  | _ => .array .int
theorem nmX1 : ∀ a, a < 1 → ∀ b, b < 1 → a ≠ b → (TX1 a).2.1 ≠ (TX1 b).2.1 := by decide +kernel
theorem tyX1_ok : ∀ k, k < 1 → parseFieldDescriptor (TX1 k).2.2.1 = some (tyX1 k) := by decide +kernel
def RX2 : String := "LineOrigins$Moves"
def TX2 : u_T := fun k => match k with
  | 0 => ("LineOrigins$Moves", "lengths", "[I", true)
  | _ => ("LineOrigins$Moves", "sources", "[I", true)
def tyX2 : Nat → FieldType := fun k => match k with
  | 0 => .array .int
  | _ => .array .int
theorem nmX2 : ∀ a, a < 2 → ∀ b, b < 2 → a ≠ b → (TX2 a).2.1 ≠ (TX2 b).2.1 := by decide +kernel
theorem tyX2_ok : ∀ k, k < 2 → parseFieldDescriptor (TX2 k).2.2.1 = some (tyX2 k) := by decide +kernel
def RX3 : String := "LineOrigins$Pairing"
def TX3 : u_T := fun k => match k with
  | 0 => ("LineOrigins$Pairing", "which", "I", true)
  | 1 => ("LineOrigins$Pairing", "parents", "[I", true)
  | 2 => ("LineOrigins$Pairing", "pairs", "[I", true)
  | 3 => ("LineOrigins$Pairing", "pairedInParent", "[I", true)
  | 4 => ("LineOrigins$Pairing", "commons", "[I", true)
  | _ => ("LineOrigins$Pairing", "table", "[I", true)
def tyX3 : Nat → FieldType := fun k => match k with
  | 0 => .int
  | 1 => .array .int
  | 2 => .array .int
  | 3 => .array .int
  | 4 => .array .int
  | _ => .array .int
theorem nmX3 : ∀ a, a < 6 → ∀ b, b < 6 → a ≠ b → (TX3 a).2.1 ≠ (TX3 b).2.1 := by decide +kernel
theorem tyX3_ok : ∀ k, k < 6 → parseFieldDescriptor (TX3 k).2.2.1 = some (tyX3 k) := by decide +kernel
def RX4 : String := "LineOrigins$Parentage"
def TX4 : u_T := fun k => match k with
  | 0 => ("LineOrigins$Parentage", "firstPairing", "LLineOrigins$Pairing;", true)
  | 1 => ("LineOrigins$Parentage", "secondPairing", "LLineOrigins$Pairing;", true)
  | 2 => ("LineOrigins$Parentage", "moves", "LLineOrigins$Moves;", true)
  | _ => ("LineOrigins$Parentage", "gaps", "LLineOrigins$Gaps;", true)
def tyX4 : Nat → FieldType := fun k => match k with
  | 0 => .object "LineOrigins$Pairing"
  | 1 => .object "LineOrigins$Pairing"
  | 2 => .object "LineOrigins$Moves"
  | _ => .object "LineOrigins$Gaps"
theorem nmX4 : ∀ a, a < 4 → ∀ b, b < 4 → a ≠ b → (TX4 a).2.1 ≠ (TX4 b).2.1 := by decide +kernel
theorem tyX4_ok : ∀ k, k < 4 → parseFieldDescriptor (TX4 k).2.2.1 = some (tyX4 k) := by decide +kernel
def RX5 : String := "LineOrigins$Reader"
def TX5 : u_T := fun k => match k with
  | _ => ("LineOrigins$Reader", "state", "I", false)
def tyX5 : Nat → FieldType := fun k => match k with
  | _ => .int
theorem nmX5 : ∀ a, a < 1 → ∀ b, b < 1 → a ≠ b → (TX5 a).2.1 ≠ (TX5 b).2.1 := by decide +kernel
theorem tyX5_ok : ∀ k, k < 1 → parseFieldDescriptor (TX5 k).2.2.1 = some (tyX5 k) := by decide +kernel
def RX6 : String := "LineOrigins$Revisions"
def TX6 : u_T := fun k => match k with
  | 0 => ("LineOrigins$Revisions", "number", "I", false)
  | 1 => ("LineOrigins$Revisions", "parents", "[I", true)
  | 2 => ("LineOrigins$Revisions", "sizes", "[I", true)
  | _ => ("LineOrigins$Revisions", "letters", "[I", true)
def tyX6 : Nat → FieldType := fun k => match k with
  | 0 => .int
  | 1 => .array .int
  | 2 => .array .int
  | _ => .array .int
theorem nmX6 : ∀ a, a < 4 → ∀ b, b < 4 → a ≠ b → (TX6 a).2.1 ≠ (TX6 b).2.1 := by decide +kernel
theorem tyX6_ok : ∀ k, k < 4 → parseFieldDescriptor (TX6 k).2.2.1 = some (tyX6 k) := by decide +kernel
def RX7 : String := "LineOrigins$Settings"
def TX7 : u_T := fun k => match k with
  | 0 => ("LineOrigins$Settings", "block", "I", false)
  | 1 => ("LineOrigins$Settings", "passed", "I", false)
  | _ => ("LineOrigins$Settings", "rules", "I", false)
def tyX7 : Nat → FieldType := fun k => match k with
  | 0 => .int
  | 1 => .int
  | _ => .int
theorem nmX7 : ∀ a, a < 3 → ∀ b, b < 3 → a ≠ b → (TX7 a).2.1 ≠ (TX7 b).2.1 := by decide +kernel
theorem tyX7_ok : ∀ k, k < 3 → parseFieldDescriptor (TX7 k).2.2.1 = some (tyX7 k) := by decide +kernel
def RX8 : String := "LineOrigins$Sights"
def TX8 : u_T := fun k => match k with
  | 0 => ("LineOrigins$Sights", "lines", "[I", true)
  | 1 => ("LineOrigins$Sights", "origins", "[I", true)
  | 2 => ("LineOrigins$Sights", "truths", "[Z", true)
  | _ => ("LineOrigins$Sights", "number", "I", false)
def tyX8 : Nat → FieldType := fun k => match k with
  | 0 => .array .int
  | 1 => .array .int
  | 2 => .array .boolean
  | _ => .int
theorem nmX8 : ∀ a, a < 4 → ∀ b, b < 4 → a ≠ b → (TX8 a).2.1 ≠ (TX8 b).2.1 := by decide +kernel
theorem tyX8_ok : ∀ k, k < 4 → parseFieldDescriptor (TX8 k).2.2.1 = some (tyX8 k) := by decide +kernel
def RX9 : String := "LineOrigins$Text"
def TX9 : u_T := fun k => match k with
  | 0 => ("LineOrigins$Text", "letters", "[I", true)
  | _ => ("LineOrigins$Text", "length", "I", false)
def tyX9 : Nat → FieldType := fun k => match k with
  | 0 => .array .int
  | _ => .int
theorem nmX9 : ∀ a, a < 2 → ∀ b, b < 2 → a ≠ b → (TX9 a).2.1 ≠ (TX9 b).2.1 := by decide +kernel
theorem tyX9_ok : ∀ k, k < 2 → parseFieldDescriptor (TX9 k).2.2.1 = some (tyX9 k) := by decide +kernel
def RX10 : String := "LineOrigins$Traces"
def TX10 : u_T := fun k => match k with
  | 0 => ("LineOrigins$Traces", "origins", "[I", true)
  | 1 => ("LineOrigins$Traces", "steps", "[I", true)
  | _ => ("LineOrigins$Traces", "rules", "[I", true)
def tyX10 : Nat → FieldType := fun k => match k with
  | 0 => .array .int
  | 1 => .array .int
  | _ => .array .int
theorem nmX10 : ∀ a, a < 3 → ∀ b, b < 3 → a ≠ b → (TX10 a).2.1 ≠ (TX10 b).2.1 := by decide +kernel
theorem tyX10_ok : ∀ k, k < 3 → parseFieldDescriptor (TX10 k).2.2.1 = some (tyX10 k) := by decide +kernel
def RX11 : String := "LineOrigins"
def TX11 : u_T := fun k => match k with
  | 0 => ("LineOrigins", "text", "LLineOrigins$Text;", true)
  | 1 => ("LineOrigins", "reader", "LLineOrigins$Reader;", true)
  | 2 => ("LineOrigins", "draft", "LLineOrigins$Revisions;", true)
  | 3 => ("LineOrigins", "revisions", "LLineOrigins$Revisions;", true)
  | 4 => ("LineOrigins", "parentage", "LLineOrigins$Parentage;", true)
  | 5 => ("LineOrigins", "settings", "LLineOrigins$Settings;", true)
  | 6 => ("LineOrigins", "trialSettings", "LLineOrigins$Settings;", true)
  | 7 => ("LineOrigins", "traces", "LLineOrigins$Traces;", true)
  | 8 => ("LineOrigins", "trialTraces", "LLineOrigins$Traces;", true)
  | 9 => ("LineOrigins", "changes", "LLineOrigins$Changes;", true)
  | 10 => ("LineOrigins", "sights", "LLineOrigins$Sights;", true)
  | _ => ("LineOrigins", "images", "[I", true)
def tyX11 : Nat → FieldType := fun k => match k with
  | 0 => .object "LineOrigins$Text"
  | 1 => .object "LineOrigins$Reader"
  | 2 => .object "LineOrigins$Revisions"
  | 3 => .object "LineOrigins$Revisions"
  | 4 => .object "LineOrigins$Parentage"
  | 5 => .object "LineOrigins$Settings"
  | 6 => .object "LineOrigins$Settings"
  | 7 => .object "LineOrigins$Traces"
  | 8 => .object "LineOrigins$Traces"
  | 9 => .object "LineOrigins$Changes"
  | 10 => .object "LineOrigins$Sights"
  | _ => .array .int
theorem nmX11 : ∀ a, a < 12 → ∀ b, b < 12 → a ≠ b → (TX11 a).2.1 ≠ (TX11 b).2.1 := by decide +kernel
theorem tyX11_ok : ∀ k, k < 12 → parseFieldDescriptor (TX11 k).2.2.1 = some (tyX11 k) := by decide +kernel
def RX12 : String := "LineOriginsModel"
def TX12 : u_T := fun k => match k with
  | 0 => ("LineOriginsModel", "revisions", "I", false)
  | 1 => ("LineOriginsModel", "sizes", "[I", true)
  | 2 => ("LineOriginsModel", "parents", "[I", true)
  | 3 => ("LineOriginsModel", "letters", "[I", true)
  | 4 => ("LineOriginsModel", "pairs", "[I", true)
  | 5 => ("LineOriginsModel", "isPaired", "[I", true)
  | 6 => ("LineOriginsModel", "st", "[I", true)
  | 7 => ("LineOriginsModel", "past", "[I", true)
  | 8 => ("LineOriginsModel", "undoMany", "I", false)
  | 9 => ("LineOriginsModel", "text", "[I", true)
  | 10 => ("LineOriginsModel", "length", "I", false)
  | 11 => ("LineOriginsModel", "place", "I", false)
  | 12 => ("LineOriginsModel", "from", "I", false)
  | 13 => ("LineOriginsModel", "token", "I", false)
  | 14 => ("LineOriginsModel", "number", "I", false)
  | 15 => ("LineOriginsModel", "wrong", "I", false)
  | 16 => ("LineOriginsModel", "newMany", "I", false)
  | 17 => ("LineOriginsModel", "newSizes", "[I", true)
  | 18 => ("LineOriginsModel", "newParents", "[I", true)
  | 19 => ("LineOriginsModel", "newLetters", "[I", true)
  | 20 => ("LineOriginsModel", "common", "[I", true)
  | 21 => ("LineOriginsModel", "origins", "[I", true)
  | 22 => ("LineOriginsModel", "steps", "[I", true)
  | 23 => ("LineOriginsModel", "seen", "[I", true)
  | 24 => ("LineOriginsModel", "seenMany", "I", false)
  | 25 => ("LineOriginsModel", "images", "[I", true)
  | _ => ("LineOriginsModel", "isKept", "[Z", true)
def tyX12 : Nat → FieldType := fun k => match k with
  | 0 => .int
  | 1 => .array .int
  | 2 => .array .int
  | 3 => .array .int
  | 4 => .array .int
  | 5 => .array .int
  | 6 => .array .int
  | 7 => .array .int
  | 8 => .int
  | 9 => .array .int
  | 10 => .int
  | 11 => .int
  | 12 => .int
  | 13 => .int
  | 14 => .int
  | 15 => .int
  | 16 => .int
  | 17 => .array .int
  | 18 => .array .int
  | 19 => .array .int
  | 20 => .array .int
  | 21 => .array .int
  | 22 => .array .int
  | 23 => .array .int
  | 24 => .int
  | 25 => .array .int
  | _ => .array .boolean
theorem nmX12 : ∀ a, a < 27 → ∀ b, b < 27 → a ≠ b → (TX12 a).2.1 ≠ (TX12 b).2.1 := by decide +kernel
theorem tyX12_ok : ∀ k, k < 27 → parseFieldDescriptor (TX12 k).2.2.1 = some (tyX12 k) := by decide +kernel
def RL : String := "LineOriginsLaw"
def cls : List vw_C := [(RX0, TX0, 2), (RX1, TX1, 1), (RX2, TX2, 2), (RX3, TX3, 6), (RX4, TX4, 4), (RX5, TX5, 1), (RX6, TX6, 4), (RX7, TX7, 3), (RX8, TX8, 4), (RX9, TX9, 2), (RX10, TX10, 3), (RX11, TX11, 12), (RX12, TX12, 27)]
def nmC (c : Nat) : String := (cls.getD c (RL, TX0, 0)).1
def tyC (c : Nat) : Nat → FieldType := [tyX0, tyX1, tyX2, tyX3, tyX4, tyX5, tyX6, tyX7, tyX8, tyX9, tyX10, tyX11, tyX12].getD c tyX0
/-- the fields of a new object: an int, or null -/
def bl (c : Nat) : List (Option (Option Nat)) := [[some none, none], [some none], [some none, some none], [none, some none, some none, some none, some none, some none], [some none, some none, some none, some none], [none], [none, some none, some none, some none], [none, none, none], [some none, some none, some none, none], [some none, none], [some none, some none, some none], [some none, some none, some none, some none, some none, some none, some none, some none, some none, some none, some none, some none], [none, some none, some none, some none, some none, some none, some none, some none, none, some none, none, none, none, none, none, none, none, some none, some none, some none, some none, some none, some none, some none, none, some none, some none]].getD c []
abbrev MTy : Type := MethodName × ByteArray × Nat × Nat × Nat × Nat × Nat × Nat × Nat × Nat × Nat
/-- a method: name, bytes, locals, answer (0 none, 1 int, 2 boolean), arguments with the receiver, frames, words, cells, slots, class, kind (0 instance, 1 constructor, 2 static) -/
def mt_0 : MTy := (⟨RX0, "<init>", "()V"⟩, prog_2_method_1_code, 1, 0, 1, 1, 12, 1, 10, 0, 1)
def mt_1 : MTy := (⟨RX0, "size", "()I"⟩, prog_2_method_2_code, 1, 1, 1, 0, 0, 0, 0, 0, 0)
def mt_2 : MTy := (⟨RX0, "becomeEmpty", "()V"⟩, prog_2_method_3_code, 1, 0, 1, 0, 0, 0, 0, 0, 0)
def mt_3 : MTy := (⟨RX0, "add", "(I)V"⟩, prog_2_method_4_code, 2, 0, 2, 1, 21, 0, 0, 0, 0)
def mt_4 : MTy := (⟨RX0, "loseOldest", "()V"⟩, prog_2_method_5_code, 2, 0, 1, 0, 0, 0, 0, 0, 0)
def mt_5 : MTy := (⟨RX0, "takeLatest", "()I"⟩, prog_2_method_6_code, 1, 1, 1, 0, 0, 0, 0, 0, 0)
def mt_6 : MTy := (⟨RX1, "<init>", "()V"⟩, prog_3_method_1_code, 1, 0, 1, 1, 12, 1, 64, 1, 1)
def mt_7 : MTy := (⟨RX1, "source", "(II)I"⟩, prog_3_method_2_code, 3, 1, 3, 1, 21, 0, 0, 1, 0)
def mt_8 : MTy := (⟨RX1, "workOut", "(LLineOrigins$Revisions;LLineOrigins$Pairing;)V"⟩, prog_3_method_3_code, 9, 0, 3, 3, 68, 0, 0, 1, 0)
def mt_9 : MTy := (⟨RX1, "isUnpaired", "(LLineOrigins$Revisions;LLineOrigins$Pairing;III)Z"⟩, prog_3_method_4_code, 6, 2, 5, 2, 43, 0, 0, 1, 2)
def mt_10 : MTy := (⟨RX2, "<init>", "()V"⟩, prog_4_method_1_code, 1, 0, 1, 1, 12, 2, 128, 2, 1)
def mt_11 : MTy := (⟨RX2, "lengthOf", "(II)I"⟩, prog_4_method_2_code, 3, 1, 3, 1, 21, 0, 0, 2, 0)
def mt_12 : MTy := (⟨RX2, "source", "(II)I"⟩, prog_4_method_3_code, 3, 1, 3, 1, 21, 0, 0, 2, 0)
def mt_13 : MTy := (⟨RX2, "workOut", "(LLineOrigins$Revisions;LLineOrigins$Pairing;)V"⟩, prog_4_method_4_code, 5, 0, 3, 4, 96, 0, 0, 2, 0)
def mt_14 : MTy := (⟨RX2, "workOutOne", "(LLineOrigins$Revisions;LLineOrigins$Pairing;I)V"⟩, prog_4_method_5_code, 7, 0, 4, 3, 70, 0, 0, 2, 0)
def mt_15 : MTy := (⟨RX2, "rowLength", "(LLineOrigins$Revisions;LLineOrigins$Pairing;III)I"⟩, prog_4_method_6_code, 7, 1, 5, 2, 44, 0, 0, 2, 2)
def mt_16 : MTy := (⟨RX2, "offer", "(IIII)V"⟩, prog_4_method_7_code, 6, 0, 5, 2, 43, 0, 0, 2, 0)
def mt_17 : MTy := (⟨RX3, "<init>", "(I)V"⟩, prog_5_method_1_code, 2, 0, 2, 1, 12, 5, 169, 3, 1)
def mt_18 : MTy := (⟨RX3, "parent", "(I)I"⟩, prog_5_method_2_code, 2, 1, 2, 0, 0, 0, 0, 3, 0)
def mt_19 : MTy := (⟨RX3, "pair", "(II)I"⟩, prog_5_method_3_code, 3, 1, 3, 1, 21, 0, 0, 3, 0)
def mt_20 : MTy := (⟨RX3, "isPaired", "(II)Z"⟩, prog_5_method_4_code, 3, 2, 3, 1, 21, 0, 0, 3, 0)
def mt_21 : MTy := (⟨RX3, "commonOfAll", "(I)I"⟩, prog_5_method_5_code, 2, 1, 2, 0, 0, 0, 0, 3, 0)
def mt_22 : MTy := (⟨RX3, "workOut", "(LLineOrigins$Revisions;)V"⟩, prog_5_method_6_code, 4, 0, 2, 3, 73, 0, 0, 3, 0)
def mt_23 : MTy := (⟨RX3, "becomeUnpaired", "(I)V"⟩, prog_5_method_7_code, 3, 0, 2, 1, 21, 0, 0, 3, 0)
def mt_24 : MTy := (⟨RX3, "fillTable", "(LLineOrigins$Revisions;II)V"⟩, prog_5_method_8_code, 10, 0, 4, 2, 44, 0, 0, 3, 0)
def mt_25 : MTy := (⟨RX3, "commonFrom", "(II)I"⟩, prog_5_method_9_code, 3, 1, 3, 0, 0, 0, 0, 3, 0)
def mt_26 : MTy := (⟨RX3, "setCommonFrom", "(III)V"⟩, prog_5_method_10_code, 4, 0, 4, 0, 0, 0, 0, 3, 0)
def mt_27 : MTy := (⟨RX3, "walk", "(LLineOrigins$Revisions;II)V"⟩, prog_5_method_11_code, 7, 0, 4, 2, 44, 0, 0, 3, 0)
def mt_28 : MTy := (⟨RX3, "setPair", "(III)V"⟩, prog_5_method_12_code, 4, 0, 4, 1, 21, 0, 0, 3, 0)
def mt_29 : MTy := (⟨RX4, "<init>", "()V"⟩, prog_6_method_1_code, 1, 0, 1, 2, 33, 17, 545, 4, 1)
def mt_30 : MTy := (⟨RX4, "workOut", "(LLineOrigins$Revisions;)V"⟩, prog_6_method_2_code, 2, 0, 2, 5, 120, 0, 0, 4, 0)
def mt_31 : MTy := (⟨RX4, "pair", "(III)I"⟩, prog_6_method_3_code, 4, 1, 4, 2, 43, 0, 0, 4, 0)
def mt_32 : MTy := (⟨RX4, "commonOfAll", "(II)I"⟩, prog_6_method_4_code, 3, 1, 3, 1, 21, 0, 0, 4, 0)
def mt_33 : MTy := (⟨RX4, "given", "(IIILLineOrigins$Settings;)I"⟩, prog_6_method_5_code, 7, 1, 5, 3, 67, 0, 0, 4, 0)
def mt_34 : MTy := (⟨RX4, "sourceBy", "(IIILLineOrigins$Settings;)I"⟩, prog_6_method_6_code, 5, 1, 5, 2, 43, 0, 0, 4, 0)
def mt_35 : MTy := (⟨RX5, "<init>", "()V"⟩, prog_7_method_1_code, 1, 0, 1, 1, 12, 0, 0, 5, 1)
def mt_36 : MTy := (⟨RX5, "read", "(LLineOrigins$Text;LLineOrigins$Revisions;)I"⟩, prog_7_method_2_code, 4, 1, 3, 4, 89, 0, 0, 5, 0)
def mt_37 : MTy := (⟨RX5, "beginsToken", "(LLineOrigins$Text;I)Z"⟩, prog_7_method_3_code, 2, 2, 2, 2, 43, 0, 0, 5, 2)
def mt_38 : MTy := (⟨RX5, "takes", "(LLineOrigins$Text;ILLineOrigins$Revisions;)Z"⟩, prog_7_method_4_code, 5, 2, 4, 3, 65, 0, 0, 5, 0)
def mt_39 : MTy := (⟨RX5, "takesRevision", "(LLineOrigins$Revisions;)Z"⟩, prog_7_method_5_code, 2, 2, 2, 1, 20, 0, 0, 5, 0)
def mt_40 : MTy := (⟨RX5, "takesColon", "()Z"⟩, prog_7_method_6_code, 1, 2, 1, 0, 0, 0, 0, 5, 0)
def mt_41 : MTy := (⟨RX5, "takesEnd", "(LLineOrigins$Revisions;)Z"⟩, prog_7_method_7_code, 2, 2, 2, 1, 20, 0, 0, 5, 0)
def mt_42 : MTy := (⟨RX6, "<init>", "()V"⟩, prog_8_method_1_code, 1, 0, 1, 1, 12, 3, 88, 6, 1)
def mt_43 : MTy := (⟨RX6, "told", "()I"⟩, prog_8_method_2_code, 1, 1, 1, 0, 0, 0, 0, 6, 0)
def mt_44 : MTy := (⟨RX6, "has", "(I)Z"⟩, prog_8_method_3_code, 2, 2, 2, 0, 0, 0, 0, 6, 0)
def mt_45 : MTy := (⟨RX6, "hasLine", "(II)Z"⟩, prog_8_method_4_code, 3, 2, 3, 0, 0, 0, 0, 6, 0)
def mt_46 : MTy := (⟨RX6, "size", "(I)I"⟩, prog_8_method_5_code, 2, 1, 2, 1, 21, 0, 0, 6, 0)
def mt_47 : MTy := (⟨RX6, "parent", "(II)I"⟩, prog_8_method_6_code, 3, 1, 3, 1, 21, 0, 0, 6, 0)
def mt_48 : MTy := (⟨RX6, "letter", "(II)I"⟩, prog_8_method_7_code, 3, 1, 3, 1, 22, 0, 0, 6, 0)
def mt_49 : MTy := (⟨RX6, "allLines", "()I"⟩, prog_8_method_8_code, 3, 1, 1, 0, 0, 0, 0, 6, 0)
def mt_50 : MTy := (⟨RX6, "becomeEmpty", "()V"⟩, prog_8_method_9_code, 1, 0, 1, 0, 0, 0, 0, 6, 0)
def mt_51 : MTy := (⟨RX6, "begin", "()Z"⟩, prog_8_method_10_code, 1, 2, 1, 0, 0, 0, 0, 6, 0)
def mt_52 : MTy := (⟨RX6, "addParent", "(I)Z"⟩, prog_8_method_11_code, 4, 2, 2, 1, 21, 0, 0, 6, 0)
def mt_53 : MTy := (⟨RX6, "addLine", "(I)Z"⟩, prog_8_method_12_code, 2, 2, 2, 1, 21, 0, 0, 6, 0)
def mt_54 : MTy := (⟨RX6, "end", "()V"⟩, prog_8_method_13_code, 1, 0, 1, 0, 0, 0, 0, 6, 0)
def mt_55 : MTy := (⟨RX6, "copyFrom", "(LLineOrigins$Revisions;)V"⟩, prog_8_method_14_code, 2, 0, 2, 1, 26, 0, 0, 6, 0)
def mt_56 : MTy := (⟨RX7, "<init>", "()V"⟩, prog_9_method_1_code, 1, 0, 1, 1, 12, 0, 0, 7, 1)
def mt_57 : MTy := (⟨RX7, "becomeAsAtFirst", "()V"⟩, prog_9_method_2_code, 1, 0, 1, 0, 0, 0, 0, 7, 0)
def mt_58 : MTy := (⟨RX7, "code", "()I"⟩, prog_9_method_3_code, 1, 1, 1, 0, 0, 0, 0, 7, 0)
def mt_59 : MTy := (⟨RX7, "become", "(I)V"⟩, prog_9_method_4_code, 2, 0, 2, 0, 0, 0, 0, 7, 0)
def mt_60 : MTy := (⟨RX7, "block", "()I"⟩, prog_9_method_5_code, 1, 1, 1, 0, 0, 0, 0, 7, 0)
def mt_61 : MTy := (⟨RX7, "setBlock", "(I)V"⟩, prog_9_method_6_code, 2, 0, 2, 0, 0, 0, 0, 7, 0)
def mt_62 : MTy := (⟨RX7, "isLongEnough", "(I)Z"⟩, prog_9_method_7_code, 2, 2, 2, 0, 0, 0, 0, 7, 0)
def mt_63 : MTy := (⟨RX7, "passedBits", "()I"⟩, prog_9_method_8_code, 1, 1, 1, 0, 0, 0, 0, 7, 0)
def mt_64 : MTy := (⟨RX7, "isPassed", "(I)Z"⟩, prog_9_method_9_code, 2, 2, 2, 0, 0, 0, 0, 7, 0)
def mt_65 : MTy := (⟨RX7, "turnPassed", "(I)V"⟩, prog_9_method_10_code, 2, 0, 2, 0, 0, 0, 0, 7, 0)
def mt_66 : MTy := (⟨RX7, "ruleBits", "()I"⟩, prog_9_method_11_code, 1, 1, 1, 0, 0, 0, 0, 7, 0)
def mt_67 : MTy := (⟨RX7, "isOn", "(I)Z"⟩, prog_9_method_12_code, 2, 2, 2, 0, 0, 0, 0, 7, 0)
def mt_68 : MTy := (⟨RX7, "turnRule", "(I)V"⟩, prog_9_method_13_code, 2, 0, 2, 0, 0, 0, 0, 7, 0)
def mt_69 : MTy := (⟨RX8, "<init>", "()V"⟩, prog_10_method_1_code, 1, 0, 1, 1, 12, 3, 18, 8, 1)
def mt_70 : MTy := (⟨RX8, "size", "()I"⟩, prog_10_method_2_code, 1, 1, 1, 0, 0, 0, 0, 8, 0)
def mt_71 : MTy := (⟨RX8, "becomeEmpty", "()V"⟩, prog_10_method_3_code, 1, 0, 1, 0, 0, 0, 0, 8, 0)
def mt_72 : MTy := (⟨RX8, "add", "(IIZ)V"⟩, prog_10_method_4_code, 4, 0, 4, 0, 0, 0, 0, 8, 0)
def mt_73 : MTy := (⟨RX8, "areAllSo", "(LLineOrigins$Traces;)Z"⟩, prog_10_method_5_code, 4, 2, 2, 2, 43, 0, 0, 8, 0)
def mt_74 : MTy := (⟨RX9, "<init>", "()V"⟩, prog_11_method_1_code, 1, 0, 1, 1, 12, 1, 120, 9, 1)
def mt_75 : MTy := (⟨RX9, "size", "()I"⟩, prog_11_method_2_code, 1, 1, 1, 0, 0, 0, 0, 9, 0)
def mt_76 : MTy := (⟨RX9, "add", "(I)V"⟩, prog_11_method_3_code, 2, 0, 2, 0, 0, 0, 0, 9, 0)
def mt_77 : MTy := (⟨RX9, "becomeEmpty", "()V"⟩, prog_11_method_4_code, 1, 0, 1, 0, 0, 0, 0, 9, 0)
def mt_78 : MTy := (⟨RX9, "at", "(I)I"⟩, prog_11_method_5_code, 2, 1, 2, 0, 0, 0, 0, 9, 0)
def mt_79 : MTy := (⟨RX9, "isDigit", "(I)Z"⟩, prog_11_method_6_code, 3, 2, 2, 1, 21, 0, 0, 9, 0)
def mt_80 : MTy := (⟨RX9, "numberAt", "(I)I"⟩, prog_11_method_7_code, 3, 1, 2, 2, 43, 0, 0, 9, 0)
def mt_81 : MTy := (⟨RX10, "<init>", "()V"⟩, prog_12_method_1_code, 1, 0, 1, 1, 12, 3, 192, 10, 1)
def mt_82 : MTy := (⟨RX10, "origin", "(II)I"⟩, prog_12_method_2_code, 3, 1, 3, 1, 21, 0, 0, 10, 0)
def mt_83 : MTy := (⟨RX10, "steps", "(II)I"⟩, prog_12_method_3_code, 3, 1, 3, 1, 21, 0, 0, 10, 0)
def mt_84 : MTy := (⟨RX10, "rule", "(II)I"⟩, prog_12_method_4_code, 3, 1, 3, 1, 21, 0, 0, 10, 0)
def mt_85 : MTy := (⟨RX10, "follow", "(LLineOrigins$Revisions;LLineOrigins$Parentage;LLineOrigins$Settings;)V"⟩, prog_12_method_5_code, 6, 0, 4, 5, 120, 0, 0, 10, 0)
def mt_86 : MTy := (⟨RX10, "followOne", "(LLineOrigins$Parentage;LLineOrigins$Settings;II)V"⟩, prog_12_method_6_code, 8, 0, 5, 4, 93, 0, 0, 10, 0)
def mt_87 : MTy := (⟨RX11, "<init>", "()V"⟩, prog_1_method_1_code, 1, 0, 1, 3, 53, 46, 1288, 11, 1)
def mt_88 : MTy := (⟨RX11, "type", "(I)I"⟩, prog_1_method_2_code, 2, 1, 2, 1, 21, 0, 0, 11, 0)
def mt_89 : MTy := (⟨RX11, "clear", "()I"⟩, prog_1_method_3_code, 2, 1, 1, 1, 20, 0, 0, 11, 0)
def mt_90 : MTy := (⟨RX11, "history", "()I"⟩, prog_1_method_4_code, 3, 1, 1, 7, 165, 0, 0, 11, 0)
def mt_91 : MTy := (⟨RX11, "revision", "(II)I"⟩, prog_1_method_5_code, 3, 1, 3, 2, 43, 0, 0, 11, 0)
def mt_92 : MTy := (⟨RX11, "line", "(III)I"⟩, prog_1_method_6_code, 4, 1, 4, 3, 66, 0, 0, 11, 0)
def mt_93 : MTy := (⟨RX11, "blocks", "(I)I"⟩, prog_1_method_7_code, 3, 1, 2, 7, 165, 0, 0, 11, 0)
def mt_94 : MTy := (⟨RX11, "passes", "(I)I"⟩, prog_1_method_8_code, 2, 1, 2, 7, 165, 0, 0, 11, 0)
def mt_95 : MTy := (⟨RX11, "rules", "(I)I"⟩, prog_1_method_9_code, 2, 1, 2, 7, 165, 0, 0, 11, 0)
def mt_96 : MTy := (⟨RX11, "undo", "()I"⟩, prog_1_method_10_code, 1, 1, 1, 7, 165, 0, 0, 11, 0)
def mt_97 : MTy := (⟨RX11, "gives", "(III)I"⟩, prog_1_method_11_code, 4, 1, 4, 4, 93, 0, 0, 11, 0)
def mt_98 : MTy := (⟨RX11, "begun", "(II)I"⟩, prog_1_method_12_code, 5, 1, 3, 2, 43, 0, 0, 11, 0)
def mt_99 : MTy := (⟨RX11, "age", "(II)I"⟩, prog_1_method_13_code, 4, 1, 3, 3, 69, 0, 0, 11, 0)
def mt_100 : MTy := (⟨RX11, "like", "(III)I"⟩, prog_1_method_14_code, 4, 1, 4, 3, 67, 0, 0, 11, 0)
def mt_101 : MTy := (⟨RX11, "carried", "(II)I"⟩, prog_1_method_15_code, 5, 1, 3, 3, 67, 0, 0, 11, 0)
def mt_102 : MTy := (⟨RX11, "kept", "(II)I"⟩, prog_1_method_16_code, 5, 1, 3, 3, 67, 0, 0, 11, 0)
def mt_103 : MTy := (⟨RX11, "common", "(II)I"⟩, prog_1_method_17_code, 3, 1, 3, 2, 43, 0, 0, 11, 0)
def mt_104 : MTy := (⟨RX11, "sees", "(IIII)I"⟩, prog_1_method_18_code, 5, 1, 5, 1, 23, 0, 0, 11, 0)
def mt_105 : MTy := (⟨RX11, "forget", "()I"⟩, prog_1_method_19_code, 2, 1, 1, 1, 20, 0, 0, 11, 0)
def mt_106 : MTy := (⟨RX11, "unseen", "()I"⟩, prog_1_method_20_code, 3, 1, 1, 6, 145, 0, 0, 11, 0)
def mt_107 : MTy := (⟨RX11, "keep", "(I)I"⟩, prog_1_method_21_code, 2, 1, 2, 1, 20, 0, 0, 11, 0)
def mt_108 : MTy := (⟨RX11, "back", "(I)I"⟩, prog_1_method_22_code, 2, 1, 2, 7, 165, 0, 0, 11, 0)
def mt_109 : MTy := (⟨RX11, "count", "(I)I"⟩, prog_1_method_23_code, 2, 1, 2, 3, 66, 0, 0, 11, 0)
def mt_110 : MTy := (⟨RX11, "traceAnew", "()V"⟩, prog_1_method_24_code, 1, 0, 1, 6, 145, 0, 0, 11, 0)
def mt_111 : MTy := (⟨RX11, "linesFrom", "(II)I"⟩, prog_1_method_25_code, 5, 1, 3, 2, 43, 0, 0, 11, 0)
def mt_112 : MTy := (⟨RX11, "olderOnes", "(II)I"⟩, prog_1_method_26_code, 7, 1, 3, 2, 43, 0, 0, 11, 0)
def mt_113 : MTy := (⟨RX11, "ownOrigins", "()I"⟩, prog_1_method_27_code, 4, 1, 1, 2, 43, 0, 0, 11, 0)
def mt_114 : MTy := (⟨RX11, "address", "(II)I"⟩, prog_1_method_28_code, 2, 1, 2, 0, 0, 0, 0, 11, 2)
def mt_115 : MTy := (⟨RX11, "isPlace", "(II)Z"⟩, prog_1_method_29_code, 2, 2, 2, 0, 0, 0, 0, 11, 2)
def mt_116 : MTy := (⟨RX12, "<init>", "()V"⟩, prog_14_method_1_code, 1, 0, 1, 1, 20, 17, 762, 12, 1)
def mt_117 : MTy := (⟨RX12, "begin", "()V"⟩, prog_14_method_2_code, 1, 0, 1, 0, 0, 0, 0, 12, 0)
def mt_118 : MTy := (⟨RX12, "in", "(JJJ)Z"⟩, prog_14_method_3_code, 6, 2, 3, 0, 0, 0, 0, 12, 2)
def mt_119 : MTy := (⟨RX12, "has", "(II)Z"⟩, prog_14_method_4_code, 2, 2, 2, 0, 0, 0, 0, 12, 2)
def mt_120 : MTy := (⟨RX12, "isRevision", "(I)Z"⟩, prog_14_method_5_code, 2, 2, 2, 1, 25, 0, 0, 12, 0)
def mt_121 : MTy := (⟨RX12, "isLine", "(II)Z"⟩, prog_14_method_6_code, 3, 2, 3, 2, 46, 0, 0, 12, 0)
def mt_122 : MTy := (⟨RX12, "type", "(I)I"⟩, prog_14_method_7_code, 2, 1, 2, 1, 25, 0, 0, 12, 0)
def mt_123 : MTy := (⟨RX12, "clear", "()I"⟩, prog_14_method_8_code, 2, 1, 1, 0, 0, 0, 0, 12, 0)
def mt_124 : MTy := (⟨RX12, "next", "()V"⟩, prog_14_method_9_code, 2, 0, 1, 1, 25, 0, 0, 12, 0)
def mt_125 : MTy := (⟨RX12, "faults", "()Z"⟩, prog_14_method_10_code, 1, 2, 1, 0, 0, 0, 0, 12, 0)
def mt_126 : MTy := (⟨RX12, "takesParents", "(I)Z"⟩, prog_14_method_11_code, 3, 2, 2, 2, 46, 0, 0, 12, 0)
def mt_127 : MTy := (⟨RX12, "takesItem", "()Z"⟩, prog_14_method_12_code, 2, 2, 1, 3, 68, 0, 0, 12, 0)
def mt_128 : MTy := (⟨RX12, "history", "()I"⟩, prog_14_method_13_code, 2, 1, 1, 4, 89, 0, 0, 12, 0)
def mt_129 : MTy := (⟨RX12, "letterOf", "(II)I"⟩, prog_14_method_14_code, 3, 1, 3, 0, 0, 0, 0, 12, 0)
def mt_130 : MTy := (⟨RX12, "layCommon", "(II)V"⟩, prog_14_method_15_code, 9, 0, 3, 1, 22, 0, 0, 12, 0)
def mt_131 : MTy := (⟨RX12, "layPairs", "(II)V"⟩, prog_14_method_16_code, 6, 0, 3, 2, 50, 0, 0, 12, 0)
def mt_132 : MTy := (⟨RX12, "pairOf", "(III)I"⟩, prog_14_method_17_code, 4, 1, 4, 0, 0, 0, 0, 12, 0)
def mt_133 : MTy := (⟨RX12, "rowFrom", "(IIII)I"⟩, prog_14_method_18_code, 6, 1, 5, 1, 23, 0, 0, 12, 0)
def mt_134 : MTy := (⟨RX12, "movedOf", "(II)I"⟩, prog_14_method_19_code, 9, 1, 3, 2, 48, 0, 0, 12, 0)
def mt_135 : MTy := (⟨RX12, "passedOf", "(II)I"⟩, prog_14_method_20_code, 9, 1, 3, 1, 23, 0, 0, 12, 0)
def mt_136 : MTy := (⟨RX12, "givenBy", "(III)I"⟩, prog_14_method_21_code, 4, 1, 4, 3, 76, 0, 0, 12, 0)
def mt_137 : MTy := (⟨RX12, "told", "(II)I"⟩, prog_14_method_22_code, 3, 1, 3, 0, 0, 0, 0, 12, 0)
def mt_138 : MTy := (⟨RX12, "ruleOf", "(II)I"⟩, prog_14_method_23_code, 4, 1, 3, 4, 99, 0, 0, 12, 0)
def mt_139 : MTy := (⟨RX12, "lay", "()V"⟩, prog_14_method_24_code, 5, 0, 1, 5, 122, 0, 0, 12, 0)
def mt_140 : MTy := (⟨RX12, "revision", "(II)I"⟩, prog_14_method_25_code, 3, 1, 3, 2, 46, 0, 0, 12, 0)
def mt_141 : MTy := (⟨RX12, "line", "(III)I"⟩, prog_14_method_26_code, 4, 1, 4, 6, 146, 0, 0, 12, 0)
def mt_142 : MTy := (⟨RX12, "note", "()V"⟩, prog_14_method_27_code, 2, 0, 1, 0, 0, 0, 0, 12, 0)
def mt_143 : MTy := (⟨RX12, "blocks", "(I)I"⟩, prog_14_method_28_code, 3, 1, 2, 1, 25, 0, 0, 12, 0)
def mt_144 : MTy := (⟨RX12, "passes", "(I)I"⟩, prog_14_method_29_code, 2, 1, 2, 2, 46, 0, 0, 12, 0)
def mt_145 : MTy := (⟨RX12, "rules", "(I)I"⟩, prog_14_method_30_code, 2, 1, 2, 1, 25, 0, 0, 12, 0)
def mt_146 : MTy := (⟨RX12, "undo", "()I"⟩, prog_14_method_31_code, 2, 1, 1, 0, 0, 0, 0, 12, 0)
def mt_147 : MTy := (⟨RX12, "gives", "(III)I"⟩, prog_14_method_32_code, 4, 1, 4, 4, 99, 0, 0, 12, 0)
def mt_148 : MTy := (⟨RX12, "begun", "(II)I"⟩, prog_14_method_33_code, 5, 1, 3, 6, 146, 0, 0, 12, 0)
def mt_149 : MTy := (⟨RX12, "age", "(II)I"⟩, prog_14_method_34_code, 8, 1, 3, 6, 146, 0, 0, 12, 0)
def mt_150 : MTy := (⟨RX12, "linesOf", "(II)I"⟩, prog_14_method_35_code, 5, 1, 3, 0, 0, 0, 0, 12, 0)
def mt_151 : MTy := (⟨RX12, "like", "(III)I"⟩, prog_14_method_36_code, 4, 1, 4, 6, 146, 0, 0, 12, 0)
def mt_152 : MTy := (⟨RX12, "carried", "(II)I"⟩, prog_14_method_37_code, 5, 1, 3, 6, 146, 0, 0, 12, 0)
def mt_153 : MTy := (⟨RX12, "kept", "(II)I"⟩, prog_14_method_38_code, 6, 1, 3, 6, 146, 0, 0, 12, 0)
def mt_154 : MTy := (⟨RX12, "common", "(II)I"⟩, prog_14_method_39_code, 4, 1, 3, 2, 50, 0, 0, 12, 0)
def mt_155 : MTy := (⟨RX12, "sees", "(IIII)I"⟩, prog_14_method_40_code, 5, 1, 5, 3, 68, 0, 0, 12, 0)
def mt_156 : MTy := (⟨RX12, "forget", "()I"⟩, prog_14_method_41_code, 2, 1, 1, 0, 0, 0, 0, 12, 0)
def mt_157 : MTy := (⟨RX12, "isSeenSo", "()Z"⟩, prog_14_method_42_code, 4, 2, 1, 6, 146, 0, 0, 12, 0)
def mt_158 : MTy := (⟨RX12, "unseen", "()I"⟩, prog_14_method_43_code, 3, 1, 1, 7, 169, 0, 0, 12, 0)
def mt_159 : MTy := (⟨RX12, "keep", "(I)I"⟩, prog_14_method_44_code, 3, 1, 2, 1, 25, 0, 0, 12, 0)
def mt_160 : MTy := (⟨RX12, "back", "(I)I"⟩, prog_14_method_45_code, 3, 1, 2, 1, 25, 0, 0, 12, 0)
def mt_161 : MTy := (⟨RX12, "allLines", "()I"⟩, prog_14_method_46_code, 3, 1, 1, 0, 0, 0, 0, 12, 0)
def mt_162 : MTy := (⟨RX12, "ownMany", "()I"⟩, prog_14_method_47_code, 4, 1, 1, 6, 146, 0, 0, 12, 0)
def mt_163 : MTy := (⟨RX12, "count", "(I)I"⟩, prog_14_method_48_code, 2, 1, 2, 7, 169, 0, 0, 12, 0)
def MT : List MTy := [mt_0, mt_1, mt_2, mt_3, mt_4, mt_5, mt_6, mt_7, mt_8, mt_9, mt_10, mt_11, mt_12, mt_13, mt_14, mt_15, mt_16, mt_17, mt_18, mt_19, mt_20, mt_21, mt_22, mt_23, mt_24, mt_25, mt_26, mt_27, mt_28, mt_29, mt_30, mt_31, mt_32, mt_33, mt_34, mt_35, mt_36, mt_37, mt_38, mt_39, mt_40, mt_41, mt_42, mt_43, mt_44, mt_45, mt_46, mt_47, mt_48, mt_49, mt_50, mt_51, mt_52, mt_53, mt_54, mt_55, mt_56, mt_57, mt_58, mt_59, mt_60, mt_61, mt_62, mt_63, mt_64, mt_65, mt_66, mt_67, mt_68, mt_69, mt_70, mt_71, mt_72, mt_73, mt_74, mt_75, mt_76, mt_77, mt_78, mt_79, mt_80, mt_81, mt_82, mt_83, mt_84, mt_85, mt_86, mt_87, mt_88, mt_89, mt_90, mt_91, mt_92, mt_93, mt_94, mt_95, mt_96, mt_97, mt_98, mt_99, mt_100, mt_101, mt_102, mt_103, mt_104, mt_105, mt_106, mt_107, mt_108, mt_109, mt_110, mt_111, mt_112, mt_113, mt_114, mt_115, mt_116, mt_117, mt_118, mt_119, mt_120, mt_121, mt_122, mt_123, mt_124, mt_125, mt_126, mt_127, mt_128, mt_129, mt_130, mt_131, mt_132, mt_133, mt_134, mt_135, mt_136, mt_137, mt_138, mt_139, mt_140, mt_141, mt_142, mt_143, mt_144, mt_145, mt_146, mt_147, mt_148, mt_149, mt_150, mt_151, mt_152, mt_153, mt_154, mt_155, mt_156, mt_157, mt_158, mt_159, mt_160, mt_161, mt_162, mt_163]
def mt (k : Nat) : MTy := MT.getD k mt_0
def mY (k : Nat) : MethodName := (mt k).1
def mB (k : Nat) : ByteArray := (mt k).2.1
def mL (k : Nat) : Nat := (mt k).2.2.1
def mR (k : Nat) : Nat := (mt k).2.2.2.1
def mN (k : Nat) : Nat := (mt k).2.2.2.2.1
def mF (k : Nat) : Nat := (mt k).2.2.2.2.2.1
def mO (k : Nat) : Nat := (mt k).2.2.2.2.2.2.1
def mC (k : Nat) : Nat := (mt k).2.2.2.2.2.2.2.1
def mS (k : Nat) : Nat := (mt k).2.2.2.2.2.2.2.2.1
def mI (k : Nat) : Nat := (mt k).2.2.2.2.2.2.2.2.2.1
def mZ (k : Nat) : Nat := (mt k).2.2.2.2.2.2.2.2.2.2
def rT (n : Nat) : Option FieldType := if n = 0 then none else if n = 1 then some .int else some .boolean
/-- no local of the method is a long -/
def nL (k : Nat) : Bool := !(k == 118)
/-- field links: class, entry, the field's class, its place, the word's place -/
def FK : List (Nat × Nat × Nat × Nat × Nat) := [(0, 9, 0, 0, 214), (0, 15, 0, 1, 215), (1, 9, 1, 0, 159), (2, 9, 2, 0, 146), (2, 15, 2, 1, 147), (3, 9, 3, 1, 122), (3, 15, 3, 2, 123), (3, 18, 3, 3, 124), (3, 21, 3, 4, 125), (3, 24, 3, 5, 126), (3, 27, 3, 0, 121), (4, 14, 4, 0, 163), (4, 20, 4, 1, 164), (4, 26, 4, 2, 165), (4, 33, 4, 3, 166), (5, 11, 5, 0, 86), (6, 9, 6, 0, 96), (6, 15, 6, 1, 97), (6, 19, 6, 2, 98), (6, 22, 6, 3, 99), (7, 9, 7, 0, 182), (7, 15, 7, 1, 183), (7, 18, 7, 2, 184), (8, 9, 8, 0, 227), (8, 15, 8, 1, 228), (8, 18, 8, 2, 229), (8, 22, 8, 3, 230), (9, 9, 9, 0, 72), (9, 15, 9, 1, 73), (10, 9, 10, 0, 198), (10, 15, 10, 1, 199), (10, 18, 10, 2, 200), (11, 12, 11, 0, 241), (11, 19, 11, 1, 242), (11, 26, 11, 2, 243), (11, 30, 11, 3, 244), (11, 36, 11, 4, 245), (11, 43, 11, 5, 246), (11, 47, 11, 6, 247), (11, 53, 11, 7, 248), (11, 57, 11, 8, 249), (11, 63, 11, 9, 250), (11, 70, 11, 10, 251), (11, 74, 11, 11, 252), (12, 7, 12, 1, 738), (12, 13, 12, 2, 739), (12, 16, 12, 3, 740), (12, 19, 12, 4, 741), (12, 22, 12, 5, 742), (12, 25, 12, 6, 743), (12, 28, 12, 7, 744), (12, 31, 12, 9, 746), (12, 34, 12, 17, 754), (12, 37, 12, 18, 755), (12, 40, 12, 19, 756), (12, 43, 12, 20, 757), (12, 46, 12, 21, 758), (12, 49, 12, 22, 759), (12, 52, 12, 23, 760), (12, 55, 12, 25, 762), (12, 58, 12, 26, 763), (12, 65, 12, 8, 745), (12, 69, 12, 24, 761), (12, 72, 12, 0, 737), (12, 85, 12, 10, 747), (12, 88, 12, 11, 748), (12, 91, 12, 12, 749), (12, 94, 12, 13, 750), (12, 97, 12, 14, 751), (12, 108, 12, 15, 752), (12, 118, 12, 16, 753)]
/-- method links: class, entry, kind (0 max, 1 arraycopy, 2 Object(), 3 instance, 4 static, 5 static of a nest mate, 6 constructor, 7 of a nest mate), callee, the word's place -/
def MK : List (Nat × Nat × Nat × Nat × Nat) := [(0, 19, 3, 4, 587), (0, 3, 2, 0, 213), (1, 23, 4, 9, 465), (1, 27, 3, 19, 472), (1, 3, 2, 0, 158), (1, 32, 3, 47, 468), (1, 37, 3, 46, 469), (1, 41, 3, 20, 470), (2, 26, 3, 14, 434), (2, 3, 2, 0, 145), (2, 30, 3, 47, 438), (2, 35, 3, 46, 439), (2, 39, 4, 15, 440), (2, 43, 3, 16, 452), (2, 47, 3, 48, 443), (2, 50, 3, 20, 444), (2, 55, 3, 19, 448), (2, 58, 3, 11, 456), (3, 3, 2, 0, 120), (3, 39, 3, 23, 382), (3, 43, 3, 47, 387), (3, 48, 3, 24, 391), (3, 52, 3, 27, 418), (3, 55, 3, 46, 395), (3, 59, 3, 48, 399), (3, 62, 3, 25, 407), (3, 65, 0, 0, 411), (3, 70, 3, 26, 414), (3, 74, 3, 28, 422), (4, 11, 6, 17, 117), (4, 3, 2, 0, 114), (4, 37, 3, 22, 378), (4, 41, 3, 13, 429), (4, 44, 3, 8, 461), (4, 45, 3, 19, 520), (4, 49, 3, 21, 670), (4, 53, 3, 18, 512), (4, 56, 3, 34, 516), (4, 63, 3, 11, 521), (4, 66, 3, 62, 522), (4, 72, 3, 12, 526), (4, 75, 3, 64, 530), (4, 78, 3, 7, 534), (5, 15, 3, 50, 306), (5, 20, 3, 75, 310), (5, 26, 4, 37, 311), (5, 3, 2, 0, 85), (5, 30, 3, 38, 323), (5, 34, 3, 78, 314), (5, 38, 3, 79, 318), (5, 42, 3, 39, 327), (5, 46, 3, 40, 335), (5, 50, 3, 41, 339), (5, 53, 3, 53, 347), (5, 56, 3, 80, 354), (5, 59, 3, 52, 359), (5, 62, 3, 51, 331), (5, 65, 3, 54, 343), (6, 25, 3, 44, 363), (6, 29, 3, 45, 403), (6, 3, 2, 0, 95), (6, 37, 1, 0, 371), (7, 3, 2, 0, 181), (8, 26, 3, 82, 698), (8, 3, 2, 0, 226), (9, 19, 3, 78, 322), (9, 23, 3, 79, 358), (9, 3, 2, 0, 71), (10, 29, 3, 43, 493), (10, 3, 2, 0, 197), (10, 35, 3, 46, 497), (10, 39, 3, 86, 499), (10, 43, 3, 67, 504), (10, 49, 3, 33, 508), (11, 100, 3, 57, 473), (11, 103, 3, 2, 477), (11, 104, 3, 71, 481), (11, 105, 3, 110, 485), (11, 108, 3, 43, 540), (11, 111, 3, 44, 545), (11, 115, 3, 46, 546), (11, 118, 3, 47, 547), (11, 122, 3, 64, 548), (11, 125, 3, 45, 553), (11, 129, 3, 48, 554), (11, 132, 3, 31, 555), (11, 136, 3, 84, 559), (11, 139, 3, 82, 563), (11, 142, 3, 83, 567), (11, 145, 3, 60, 575), (11, 148, 3, 58, 579), (11, 151, 3, 3, 583), (11, 152, 3, 61, 591), (11, 155, 3, 65, 599), (11, 158, 3, 68, 607), (11, 161, 3, 67, 611), (11, 164, 3, 1, 616), (11, 165, 3, 5, 620), (11, 168, 3, 59, 624), (11, 171, 3, 33, 632), (11, 175, 3, 112, 641), (11, 178, 3, 111, 649), (11, 181, 4, 114, 657), (11, 184, 3, 32, 666), (11, 187, 3, 70, 678), (11, 188, 3, 72, 682), (11, 191, 3, 85, 489), (11, 195, 3, 73, 694), (11, 199, 3, 63, 711), (11, 202, 3, 66, 715), (11, 205, 3, 49, 719), (11, 208, 3, 113, 723), (11, 3, 2, 0, 63), (11, 78, 3, 75, 282), (11, 82, 3, 76, 286), (11, 86, 3, 77, 294), (11, 89, 3, 36, 302), (11, 93, 3, 55, 367), (11, 97, 3, 30, 374), (12, 1, 2, 0, 732), (12, 111, 3, 124, 835), (12, 114, 3, 125, 847), (12, 121, 3, 126, 851), (12, 124, 3, 127, 843), (12, 127, 3, 131, 855), (12, 131, 3, 129, 863), (12, 135, 3, 130, 859), (12, 138, 3, 132, 898), (12, 142, 3, 133, 906), (12, 146, 4, 119, 875), (12, 150, 3, 134, 902), (12, 153, 3, 135, 910), (12, 156, 3, 136, 894), (12, 159, 3, 138, 890), (12, 162, 3, 137, 914), (12, 165, 3, 121, 882), (12, 168, 3, 139, 886), (12, 173, 3, 142, 923), (12, 178, 3, 150, 956), (12, 181, 3, 157, 984), (12, 184, 3, 161, 1000), (12, 188, 3, 162, 1004), (12, 62, 3, 117, 733), (12, 75, 4, 118, 824), (12, 79, 3, 120, 871), (1, 15, 5, 115, 538), (1, 19, 5, 114, 471), (2, 18, 5, 115, 460), (2, 22, 5, 114, 433), (3, 31, 5, 115, 426), (3, 35, 5, 114, 386), (4, 25, 7, 10, 142), (4, 32, 7, 6, 155), (4, 60, 5, 114, 539), (6, 33, 5, 114, 351), (10, 21, 5, 115, 498), (10, 25, 5, 114, 503), (11, 11, 7, 74, 68), (11, 18, 7, 35, 82), (11, 25, 7, 42, 92), (11, 35, 7, 29, 111), (11, 42, 7, 56, 178), (11, 52, 7, 81, 194), (11, 62, 7, 0, 210), (11, 69, 7, 69, 223)]
/-- class links: class, entry, class, the words' places -/
def CK : List (Nat × Nat × Nat × Nat × Nat) := [(11, 9, 9, 66, 67), (11, 16, 5, 80, 81), (11, 23, 6, 90, 91), (11, 33, 4, 109, 110), (4, 9, 3, 115, 116), (4, 23, 2, 140, 141), (4, 30, 1, 153, 154), (11, 40, 7, 176, 177), (11, 50, 10, 192, 193), (11, 60, 0, 208, 209), (11, 67, 8, 221, 222)]
def KK : List (Nat × Nat × Int × Nat) := [(12, 83, 255, 823), (12, 100, 97, 839), (12, 102, 122, 840), (12, 104, 48, 841), (12, 106, 57, 842), (12, 171, 4, 922), (12, 176, 3, 935)]
/-- a method's words: its code; instanceMethod or static; selects (an instance method's) -/
def MW : List (Nat × Nat × Nat) := [(212, 211, 0), (619, 617, 618), (480, 478, 479), (586, 584, 585), (590, 589, 15), (623, 621, 622), (157, 156, 0), (537, 535, 536), (464, 462, 463), (467, 466, 0), (144, 143, 0), (459, 457, 458), (529, 527, 528), (432, 430, 431), (437, 436, 10), (442, 441, 0), (455, 454, 11), (119, 118, 0), (515, 513, 514), (451, 449, 450), (447, 445, 446), (673, 671, 672), (381, 379, 380), (385, 384, 4), (394, 393, 5), (410, 409, 6), (417, 416, 7), (421, 420, 8), (425, 424, 9), (113, 112, 0), (377, 375, 376), (558, 556, 557), (669, 667, 668), (511, 509, 510), (519, 518, 14), (84, 83, 0), (305, 303, 304), (313, 312, 0), (326, 325, 0), (330, 329, 1), (338, 337, 2), (342, 341, 3), (94, 93, 0), (496, 494, 495), (366, 364, 365), (406, 404, 405), (398, 396, 397), (390, 388, 389), (402, 400, 401), (722, 720, 721), (309, 307, 308), (334, 332, 333), (362, 360, 361), (350, 348, 349), (346, 344, 345), (370, 368, 369), (180, 179, 0), (476, 474, 475), (582, 580, 581), (627, 625, 626), (578, 576, 577), (594, 592, 593), (525, 523, 524), (714, 712, 713), (533, 531, 532), (602, 600, 601), (718, 716, 717), (507, 505, 506), (610, 608, 609), (225, 224, 0), (681, 679, 680), (484, 482, 483), (685, 683, 684), (697, 695, 696), (70, 69, 0), (285, 283, 284), (289, 287, 288), (297, 295, 296), (317, 315, 316), (321, 319, 320), (357, 355, 356), (196, 195, 0), (566, 564, 565), (570, 568, 569), (562, 560, 561), (492, 490, 491), (502, 501, 13), (62, 61, 0), (281, 279, 280), (293, 291, 292), (301, 299, 300), (544, 542, 543), (552, 550, 551), (574, 572, 573), (598, 596, 597), (606, 604, 605), (615, 613, 614), (631, 629, 630), (636, 634, 635), (640, 638, 639), (648, 646, 647), (656, 654, 655), (661, 659, 660), (665, 663, 664), (677, 675, 676), (689, 687, 688), (693, 691, 692), (702, 700, 701), (706, 704, 705), (710, 708, 709), (488, 487, 12), (652, 651, 17), (644, 643, 16), (726, 725, 18), (353, 352, 0), (428, 427, 0), (731, 730, 0), (736, 735, 19), (826, 825, 0), (877, 876, 0), (874, 873, 27), (885, 884, 28), (822, 820, 821), (830, 828, 829), (838, 837, 20), (850, 849, 22), (854, 853, 23), (846, 845, 21), (834, 832, 833), (866, 865, 26), (862, 861, 25), (858, 857, 24), (901, 900, 32), (909, 908, 34), (905, 904, 33), (913, 912, 35), (897, 896, 31), (917, 916, 36), (893, 892, 30), (889, 888, 29), (870, 868, 869), (881, 879, 880), (926, 925, 37), (921, 919, 920), (930, 928, 929), (934, 932, 933), (939, 937, 938), (943, 941, 942), (947, 945, 946), (951, 949, 950), (959, 958, 38), (955, 953, 954), (963, 961, 962), (967, 965, 966), (971, 969, 970), (975, 973, 974), (979, 977, 978), (987, 986, 39), (983, 981, 982), (991, 989, 990), (995, 993, 994), (1003, 1002, 40), (1007, 1006, 41), (999, 997, 998)]
def IW : List Nat := [53, 50, 49, 48, 47, 45, 46, 51, 54, 44, 52, 43, 55]
/-- the words of the fields of a class: their places -/
def LW : List (List Nat) := [[216, 218], [160], [148, 150], [127, 129, 131, 133, 135, 137], [167, 169, 171, 173], [87], [100, 102, 104, 106], [185, 187, 189], [231, 233, 235, 237], [74, 76], [201, 203, 205], [253, 255, 257, 259, 261, 263, 265, 267, 269, 271, 273, 275], [764, 766, 768, 770, 772, 774, 776, 778, 780, 782, 784, 786, 788, 790, 792, 794, 796, 798, 800, 802, 804, 806, 808, 810, 812, 814, 816]]
def JW : List Nat := [412, 57, 413, 373, 372, 56, 64, 65, 79, 240]
end
section
/-- an instruction: itself, the next one's place, a number, two more, targets -/
abbrev En : Type := Instr × Nat × Int × Nat × Nat × List Nat
-- LineOrigins$Changes.<init>()V
def cd_0 : List (Option En) := [some (.aload_n 0, 1, 0, 0, 0, []), some (.invokespecial 3, 4, 0, 0, 2, []), none, none, some (.aload_n 0, 5, 0, 0, 0, []), some (.bipush (10), 7, 10, 0, 0, []), none, some (.newarray .int, 9, 0, 0, 0, []), none, some (.putfield 9, 12, 0, 0, 0, []), none, none, some (.aload_n 0, 13, 0, 0, 0, []), some (.iconst (0), 14, 0, 0, 0, []), some (.putfield 15, 17, 0, 0, 1, []), none, none, some (.return_, 18, 0, 0, 0, [])]
-- LineOrigins$Changes.size()I
def cd_1 : List (Option En) := [some (.aload_n 0, 1, 0, 0, 0, []), some (.getfield 15, 4, 0, 0, 1, []), none, none, some (.ireturn, 5, 0, 0, 0, [])]
-- LineOrigins$Changes.becomeEmpty()V
def cd_2 : List (Option En) := [some (.aload_n 0, 1, 0, 0, 0, []), some (.iconst (0), 2, 0, 0, 0, []), some (.putfield 15, 5, 0, 0, 1, []), none, none, some (.return_, 6, 0, 0, 0, [])]
-- LineOrigins$Changes.add(I)V
def cd_3 : List (Option En) := [some (.aload_n 0, 1, 0, 0, 0, []), some (.getfield 15, 4, 0, 0, 1, []), none, none, some (.bipush (10), 6, 10, 0, 0, []), none, some (.if_icmp .lt (7), 9, 0, 13, 0, []), none, none, some (.aload_n 0, 10, 0, 0, 0, []), some (.invokevirtual 19, 13, 0, 4, 3, []), none, none, some (.aload_n 0, 14, 0, 0, 0, []), some (.getfield 9, 17, 0, 0, 0, []), none, none, some (.aload_n 0, 18, 0, 0, 0, []), some (.getfield 15, 21, 0, 0, 1, []), none, none, some (.iload_n 1, 22, 0, 1, 0, []), some (.iastore, 23, 0, 0, 0, []), some (.aload_n 0, 24, 0, 0, 0, []), some (.dup, 25, 0, 0, 0, []), some (.getfield 15, 28, 0, 0, 1, []), none, none, some (.iconst (1), 29, 1, 0, 0, []), some (.iadd, 30, 0, 0, 0, []), some (.putfield 15, 33, 0, 0, 1, []), none, none, some (.return_, 34, 0, 0, 0, [])]
-- LineOrigins$Changes.loseOldest()V
def cd_4 : List (Option En) := [some (.iconst (1), 1, 1, 0, 0, []), some (.istore_n 1, 2, 0, 1, 0, []), some (.iload_n 1, 3, 0, 1, 0, []), some (.bipush (10), 5, 10, 0, 0, []), none, some (.if_icmp .ge (23), 8, 0, 28, 0, []), none, none, some (.aload_n 0, 9, 0, 0, 0, []), some (.getfield 9, 12, 0, 0, 0, []), none, none, some (.iload_n 1, 13, 0, 1, 0, []), some (.iconst (1), 14, 1, 0, 0, []), some (.isub, 15, 0, 0, 0, []), some (.aload_n 0, 16, 0, 0, 0, []), some (.getfield 9, 19, 0, 0, 0, []), none, none, some (.iload_n 1, 20, 0, 1, 0, []), some (.iaload, 21, 0, 0, 0, []), some (.iastore, 22, 0, 0, 0, []), some (.iinc 1 (1), 25, 1, 1, 0, []), none, none, some (.goto (-23), 28, 0, 2, 0, []), none, none, some (.aload_n 0, 29, 0, 0, 0, []), some (.bipush (9), 31, 9, 0, 0, []), none, some (.putfield 15, 34, 0, 0, 1, []), none, none, some (.return_, 35, 0, 0, 0, [])]
-- LineOrigins$Changes.takeLatest()I
def cd_5 : List (Option En) := [some (.aload_n 0, 1, 0, 0, 0, []), some (.getfield 15, 4, 0, 0, 1, []), none, none, some (.ifCond .gt (6), 7, 0, 10, 0, []), none, none, some (.bipush (-9), 9, -9, 0, 0, []), none, some (.ireturn, 10, 0, 0, 0, []), some (.aload_n 0, 11, 0, 0, 0, []), some (.dup, 12, 0, 0, 0, []), some (.getfield 15, 15, 0, 0, 1, []), none, none, some (.iconst (1), 16, 1, 0, 0, []), some (.isub, 17, 0, 0, 0, []), some (.putfield 15, 20, 0, 0, 1, []), none, none, some (.aload_n 0, 21, 0, 0, 0, []), some (.getfield 9, 24, 0, 0, 0, []), none, none, some (.aload_n 0, 25, 0, 0, 0, []), some (.getfield 15, 28, 0, 0, 1, []), none, none, some (.iaload, 29, 0, 0, 0, []), some (.ireturn, 30, 0, 0, 0, [])]
-- LineOrigins$Gaps.<init>()V
def cd_6 : List (Option En) := [some (.aload_n 0, 1, 0, 0, 0, []), some (.invokespecial 3, 4, 0, 0, 2, []), none, none, some (.aload_n 0, 5, 0, 0, 0, []), some (.bipush (64), 7, 64, 0, 0, []), none, some (.newarray .int, 9, 0, 0, 0, []), none, some (.putfield 9, 12, 0, 1, 0, []), none, none, some (.return_, 13, 0, 0, 0, [])]
-- LineOrigins$Gaps.source(II)I
def cd_7 : List (Option En) := [some (.iload_n 1, 1, 0, 1, 0, []), some (.iload_n 2, 2, 0, 2, 0, []), some (.invokestatic 15, 5, 0, 115, 5, []), none, none, some (.ifCond .eq (16), 8, 0, 21, 0, []), none, none, some (.aload_n 0, 9, 0, 0, 0, []), some (.getfield 9, 12, 0, 1, 0, []), none, none, some (.iload_n 1, 13, 0, 1, 0, []), some (.iload_n 2, 14, 0, 2, 0, []), some (.invokestatic 19, 17, 0, 114, 5, []), none, none, some (.iaload, 18, 0, 0, 0, []), some (.goto (5), 21, 0, 23, 0, []), none, none, some (.bipush (-9), 23, -9, 0, 0, []), none, some (.ireturn, 24, 0, 0, 0, [])]
-- LineOrigins$Gaps.workOut(LLineOrigins$Revisions;LLineOrigins$Pairing;)V
def cd_8 : List (Option En) := [some (.iconst (0), 1, 0, 0, 0, []), some (.istore_n 3, 2, 0, 3, 0, []), some (.iload_n 3, 3, 0, 3, 0, []), some (.bipush (8), 5, 8, 0, 0, []), none, some (.if_icmp .ge (103), 8, 0, 108, 0, []), none, none, some (.iconst (-1), 9, -1, 0, 0, []), some (.istore 4, 11, 0, 4, 0, []), none, some (.iconst (-1), 12, -1, 0, 0, []), some (.istore 5, 14, 0, 5, 0, []), none, some (.iconst (0), 15, 0, 0, 0, []), some (.istore 6, 17, 0, 6, 0, []), none, some (.iload 6, 19, 0, 6, 0, []), none, some (.bipush (8), 21, 8, 0, 0, []), none, some (.if_icmp .ge (81), 24, 0, 102, 0, []), none, none, some (.iload 5, 26, 0, 5, 0, []), none, some (.iload 6, 28, 0, 6, 0, []), none, some (.iadd, 29, 0, 0, 0, []), some (.iload 4, 31, 0, 4, 0, []), none, some (.isub, 32, 0, 0, 0, []), some (.istore 7, 34, 0, 7, 0, []), none, some (.aload_n 1, 35, 0, 1, 0, []), some (.aload_n 2, 36, 0, 2, 0, []), some (.iload_n 3, 37, 0, 3, 0, []), some (.iload 5, 39, 0, 5, 0, []), none, some (.iconst (1), 40, 1, 0, 0, []), some (.iadd, 41, 0, 0, 0, []), some (.iload 7, 43, 0, 7, 0, []), none, some (.invokestatic 23, 46, 0, 9, 4, []), none, none, some (.istore 8, 48, 0, 8, 0, []), none, some (.aload_n 0, 49, 0, 0, 0, []), some (.getfield 9, 52, 0, 1, 0, []), none, none, some (.iload_n 3, 53, 0, 3, 0, []), some (.iload 6, 55, 0, 6, 0, []), none, some (.invokestatic 19, 58, 0, 114, 5, []), none, none, some (.iload 8, 60, 0, 8, 0, []), none, some (.ifCond .eq (8), 63, 0, 68, 0, []), none, none, some (.iload 7, 65, 0, 7, 0, []), none, some (.goto (5), 68, 0, 70, 0, []), none, none, some (.bipush (-9), 70, -9, 0, 0, []), none, some (.iastore, 71, 0, 0, 0, []), some (.aload_n 2, 72, 0, 2, 0, []), some (.iload_n 3, 73, 0, 3, 0, []), some (.iload 6, 75, 0, 6, 0, []), none, some (.invokevirtual 27, 78, 0, 19, 3, []), none, none, some (.bipush (-9), 80, -9, 0, 0, []), none, some (.if_icmp .eq (16), 83, 0, 96, 0, []), none, none, some (.iload 6, 85, 0, 6, 0, []), none, some (.istore 4, 87, 0, 4, 0, []), none, some (.aload_n 2, 88, 0, 2, 0, []), some (.iload_n 3, 89, 0, 3, 0, []), some (.iload 6, 91, 0, 6, 0, []), none, some (.invokevirtual 27, 94, 0, 19, 3, []), none, none, some (.istore 5, 96, 0, 5, 0, []), none, some (.iinc 6 (1), 99, 1, 6, 0, []), none, none, some (.goto (-82), 102, 0, 17, 0, []), none, none, some (.iinc 3 (1), 105, 1, 3, 0, []), none, none, some (.goto (-103), 108, 0, 2, 0, []), none, none, some (.return_, 109, 0, 0, 0, [])]
-- LineOrigins$Gaps.isUnpaired(LLineOrigins$Revisions;LLineOrigins$Pairing;III)Z
def cd_9 : List (Option En) := [some (.iload 4, 2, 0, 4, 0, []), none, some (.aload_n 0, 3, 0, 0, 0, []), some (.aload_n 0, 4, 0, 0, 0, []), some (.iload_n 2, 5, 0, 2, 0, []), some (.iconst (0), 6, 0, 0, 0, []), some (.invokevirtual 32, 9, 0, 47, 3, []), none, none, some (.invokevirtual 37, 12, 0, 46, 3, []), none, none, some (.if_icmp .lt (5), 15, 0, 17, 0, []), none, none, some (.iconst (0), 16, 0, 0, 0, []), some (.ireturn, 17, 0, 0, 0, []), some (.iload_n 3, 18, 0, 3, 0, []), some (.istore 5, 20, 0, 5, 0, []), none, some (.iload 5, 22, 0, 5, 0, []), none, some (.iload 4, 24, 0, 4, 0, []), none, some (.if_icmp .gt (21), 27, 0, 45, 0, []), none, none, some (.aload_n 1, 28, 0, 1, 0, []), some (.iload_n 2, 29, 0, 2, 0, []), some (.iload 5, 31, 0, 5, 0, []), none, some (.invokevirtual 41, 34, 0, 20, 3, []), none, none, some (.ifCond .eq (5), 37, 0, 39, 0, []), none, none, some (.iconst (0), 38, 0, 0, 0, []), some (.ireturn, 39, 0, 0, 0, []), some (.iinc 5 (1), 42, 1, 5, 0, []), none, none, some (.goto (-22), 45, 0, 20, 0, []), none, none, some (.iconst (1), 46, 1, 0, 0, []), some (.ireturn, 47, 0, 0, 0, [])]
-- LineOrigins$Moves.<init>()V
def cd_10 : List (Option En) := [some (.aload_n 0, 1, 0, 0, 0, []), some (.invokespecial 3, 4, 0, 0, 2, []), none, none, some (.aload_n 0, 5, 0, 0, 0, []), some (.bipush (64), 7, 64, 0, 0, []), none, some (.newarray .int, 9, 0, 0, 0, []), none, some (.putfield 9, 12, 0, 2, 0, []), none, none, some (.aload_n 0, 13, 0, 0, 0, []), some (.bipush (64), 15, 64, 0, 0, []), none, some (.newarray .int, 17, 0, 0, 0, []), none, some (.putfield 15, 20, 0, 2, 1, []), none, none, some (.return_, 21, 0, 0, 0, [])]
-- LineOrigins$Moves.lengthOf(II)I
def cd_11 : List (Option En) := [some (.iload_n 1, 1, 0, 1, 0, []), some (.iload_n 2, 2, 0, 2, 0, []), some (.invokestatic 18, 5, 0, 115, 5, []), none, none, some (.ifCond .eq (16), 8, 0, 21, 0, []), none, none, some (.aload_n 0, 9, 0, 0, 0, []), some (.getfield 9, 12, 0, 2, 0, []), none, none, some (.iload_n 1, 13, 0, 1, 0, []), some (.iload_n 2, 14, 0, 2, 0, []), some (.invokestatic 22, 17, 0, 114, 5, []), none, none, some (.iaload, 18, 0, 0, 0, []), some (.goto (4), 21, 0, 22, 0, []), none, none, some (.iconst (0), 22, 0, 0, 0, []), some (.ireturn, 23, 0, 0, 0, [])]
-- LineOrigins$Moves.source(II)I
def cd_12 : List (Option En) := [some (.iload_n 1, 1, 0, 1, 0, []), some (.iload_n 2, 2, 0, 2, 0, []), some (.invokestatic 18, 5, 0, 115, 5, []), none, none, some (.ifCond .eq (16), 8, 0, 21, 0, []), none, none, some (.aload_n 0, 9, 0, 0, 0, []), some (.getfield 15, 12, 0, 2, 1, []), none, none, some (.iload_n 1, 13, 0, 1, 0, []), some (.iload_n 2, 14, 0, 2, 0, []), some (.invokestatic 22, 17, 0, 114, 5, []), none, none, some (.iaload, 18, 0, 0, 0, []), some (.goto (5), 21, 0, 23, 0, []), none, none, some (.bipush (-9), 23, -9, 0, 0, []), none, some (.ireturn, 24, 0, 0, 0, [])]
-- LineOrigins$Moves.workOut(LLineOrigins$Revisions;LLineOrigins$Pairing;)V
def cd_13 : List (Option En) := [some (.iconst (0), 1, 0, 0, 0, []), some (.istore_n 3, 2, 0, 3, 0, []), some (.iload_n 3, 3, 0, 3, 0, []), some (.bipush (8), 5, 8, 0, 0, []), none, some (.if_icmp .ge (57), 8, 0, 62, 0, []), none, none, some (.iconst (0), 9, 0, 0, 0, []), some (.istore 4, 11, 0, 4, 0, []), none, some (.iload 4, 13, 0, 4, 0, []), none, some (.bipush (8), 15, 8, 0, 0, []), none, some (.if_icmp .ge (34), 18, 0, 49, 0, []), none, none, some (.aload_n 0, 19, 0, 0, 0, []), some (.getfield 9, 22, 0, 2, 0, []), none, none, some (.iload_n 3, 23, 0, 3, 0, []), some (.iload 4, 25, 0, 4, 0, []), none, some (.invokestatic 22, 28, 0, 114, 5, []), none, none, some (.iconst (0), 29, 0, 0, 0, []), some (.iastore, 30, 0, 0, 0, []), some (.aload_n 0, 31, 0, 0, 0, []), some (.getfield 15, 34, 0, 2, 1, []), none, none, some (.iload_n 3, 35, 0, 3, 0, []), some (.iload 4, 37, 0, 4, 0, []), none, some (.invokestatic 22, 40, 0, 114, 5, []), none, none, some (.bipush (-9), 42, -9, 0, 0, []), none, some (.iastore, 43, 0, 0, 0, []), some (.iinc 4 (1), 46, 1, 4, 0, []), none, none, some (.goto (-35), 49, 0, 11, 0, []), none, none, some (.aload_n 0, 50, 0, 0, 0, []), some (.aload_n 1, 51, 0, 1, 0, []), some (.aload_n 2, 52, 0, 2, 0, []), some (.iload_n 3, 53, 0, 3, 0, []), some (.invokevirtual 26, 56, 0, 14, 3, []), none, none, some (.iinc 3 (1), 59, 1, 3, 0, []), none, none, some (.goto (-57), 62, 0, 2, 0, []), none, none, some (.return_, 63, 0, 0, 0, [])]
-- LineOrigins$Moves.workOutOne(LLineOrigins$Revisions;LLineOrigins$Pairing;I)V
def cd_14 : List (Option En) := [some (.aload_n 1, 1, 0, 1, 0, []), some (.iload_n 3, 2, 0, 3, 0, []), some (.iconst (0), 3, 0, 0, 0, []), some (.invokevirtual 30, 6, 0, 47, 3, []), none, none, some (.istore 4, 8, 0, 4, 0, []), none, some (.iconst (0), 9, 0, 0, 0, []), some (.istore 5, 11, 0, 5, 0, []), none, some (.iload 5, 13, 0, 5, 0, []), none, some (.aload_n 1, 14, 0, 1, 0, []), some (.iload 4, 16, 0, 4, 0, []), none, some (.invokevirtual 35, 19, 0, 46, 3, []), none, none, some (.if_icmp .ge (47), 22, 0, 66, 0, []), none, none, some (.iconst (0), 23, 0, 0, 0, []), some (.istore 6, 25, 0, 6, 0, []), none, some (.iload 6, 27, 0, 6, 0, []), none, some (.aload_n 1, 28, 0, 1, 0, []), some (.iload_n 3, 29, 0, 3, 0, []), some (.invokevirtual 35, 32, 0, 46, 3, []), none, none, some (.if_icmp .ge (28), 35, 0, 60, 0, []), none, none, some (.aload_n 0, 36, 0, 0, 0, []), some (.iload_n 3, 37, 0, 3, 0, []), some (.iload 5, 39, 0, 5, 0, []), none, some (.iload 6, 41, 0, 6, 0, []), none, some (.aload_n 1, 42, 0, 1, 0, []), some (.aload_n 2, 43, 0, 2, 0, []), some (.iload_n 3, 44, 0, 3, 0, []), some (.iload 5, 46, 0, 5, 0, []), none, some (.iload 6, 48, 0, 6, 0, []), none, some (.invokestatic 39, 51, 0, 15, 4, []), none, none, some (.invokevirtual 43, 54, 0, 16, 3, []), none, none, some (.iinc 6 (1), 57, 1, 6, 0, []), none, none, some (.goto (-32), 60, 0, 25, 0, []), none, none, some (.iinc 5 (1), 63, 1, 5, 0, []), none, none, some (.goto (-52), 66, 0, 11, 0, []), none, none, some (.return_, 67, 0, 0, 0, [])]
-- LineOrigins$Moves.rowLength(LLineOrigins$Revisions;LLineOrigins$Pairing;III)I
def cd_15 : List (Option En) := [some (.aload_n 0, 1, 0, 0, 0, []), some (.iload_n 2, 2, 0, 2, 0, []), some (.iconst (0), 3, 0, 0, 0, []), some (.invokevirtual 30, 6, 0, 47, 3, []), none, none, some (.istore 5, 8, 0, 5, 0, []), none, some (.iconst (0), 9, 0, 0, 0, []), some (.istore 6, 11, 0, 6, 0, []), none, some (.iload 6, 13, 0, 6, 0, []), none, some (.bipush (8), 15, 8, 0, 0, []), none, some (.if_icmp .ge (85), 18, 0, 100, 0, []), none, none, some (.iload_n 3, 19, 0, 3, 0, []), some (.iload 6, 21, 0, 6, 0, []), none, some (.iadd, 22, 0, 0, 0, []), some (.aload_n 0, 23, 0, 0, 0, []), some (.iload 5, 25, 0, 5, 0, []), none, some (.invokevirtual 35, 28, 0, 46, 3, []), none, none, some (.if_icmp .ge (72), 31, 0, 100, 0, []), none, none, some (.iload 4, 33, 0, 4, 0, []), none, some (.iload 6, 35, 0, 6, 0, []), none, some (.iadd, 36, 0, 0, 0, []), some (.aload_n 0, 37, 0, 0, 0, []), some (.iload_n 2, 38, 0, 2, 0, []), some (.invokevirtual 35, 41, 0, 46, 3, []), none, none, some (.if_icmp .ge (59), 44, 0, 100, 0, []), none, none, some (.aload_n 0, 45, 0, 0, 0, []), some (.iload 5, 47, 0, 5, 0, []), none, some (.iload_n 3, 48, 0, 3, 0, []), some (.iload 6, 50, 0, 6, 0, []), none, some (.iadd, 51, 0, 0, 0, []), some (.invokevirtual 47, 54, 0, 48, 3, []), none, none, some (.aload_n 0, 55, 0, 0, 0, []), some (.iload_n 2, 56, 0, 2, 0, []), some (.iload 4, 58, 0, 4, 0, []), none, some (.iload 6, 60, 0, 6, 0, []), none, some (.iadd, 61, 0, 0, 0, []), some (.invokevirtual 47, 64, 0, 48, 3, []), none, none, some (.if_icmp .ne (36), 67, 0, 100, 0, []), none, none, some (.aload_n 1, 68, 0, 1, 0, []), some (.iload_n 2, 69, 0, 2, 0, []), some (.iload_n 3, 70, 0, 3, 0, []), some (.iload 6, 72, 0, 6, 0, []), none, some (.iadd, 73, 0, 0, 0, []), some (.invokevirtual 50, 76, 0, 20, 3, []), none, none, some (.ifCond .ne (24), 79, 0, 100, 0, []), none, none, some (.aload_n 1, 80, 0, 1, 0, []), some (.iload_n 2, 81, 0, 2, 0, []), some (.iload 4, 83, 0, 4, 0, []), none, some (.iload 6, 85, 0, 6, 0, []), none, some (.iadd, 86, 0, 0, 0, []), some (.invokevirtual 55, 89, 0, 19, 3, []), none, none, some (.bipush (-9), 91, -9, 0, 0, []), none, some (.if_icmp .ne (9), 94, 0, 100, 0, []), none, none, some (.iinc 6 (1), 97, 1, 6, 0, []), none, none, some (.goto (-86), 100, 0, 11, 0, []), none, none, some (.iload 6, 102, 0, 6, 0, []), none, some (.ireturn, 103, 0, 0, 0, [])]
-- LineOrigins$Moves.offer(IIII)V
def cd_16 : List (Option En) := [some (.iconst (0), 1, 0, 0, 0, []), some (.istore 5, 3, 0, 5, 0, []), none, some (.iload 5, 5, 0, 5, 0, []), none, some (.iload 4, 7, 0, 4, 0, []), none, some (.if_icmp .ge (66), 10, 0, 73, 0, []), none, none, some (.iload 4, 12, 0, 4, 0, []), none, some (.aload_n 0, 13, 0, 0, 0, []), some (.iload_n 1, 14, 0, 1, 0, []), some (.iload_n 3, 15, 0, 3, 0, []), some (.iload 5, 17, 0, 5, 0, []), none, some (.iadd, 18, 0, 0, 0, []), some (.invokevirtual 58, 21, 0, 11, 3, []), none, none, some (.if_icmp .le (46), 24, 0, 67, 0, []), none, none, some (.iload_n 1, 25, 0, 1, 0, []), some (.iload_n 3, 26, 0, 3, 0, []), some (.iload 5, 28, 0, 5, 0, []), none, some (.iadd, 29, 0, 0, 0, []), some (.invokestatic 18, 32, 0, 115, 5, []), none, none, some (.ifCond .eq (35), 35, 0, 67, 0, []), none, none, some (.aload_n 0, 36, 0, 0, 0, []), some (.getfield 9, 39, 0, 2, 0, []), none, none, some (.iload_n 1, 40, 0, 1, 0, []), some (.iload_n 3, 41, 0, 3, 0, []), some (.iload 5, 43, 0, 5, 0, []), none, some (.iadd, 44, 0, 0, 0, []), some (.invokestatic 22, 47, 0, 114, 5, []), none, none, some (.iload 4, 49, 0, 4, 0, []), none, some (.iastore, 50, 0, 0, 0, []), some (.aload_n 0, 51, 0, 0, 0, []), some (.getfield 15, 54, 0, 2, 1, []), none, none, some (.iload_n 1, 55, 0, 1, 0, []), some (.iload_n 3, 56, 0, 3, 0, []), some (.iload 5, 58, 0, 5, 0, []), none, some (.iadd, 59, 0, 0, 0, []), some (.invokestatic 22, 62, 0, 114, 5, []), none, none, some (.iload_n 2, 63, 0, 2, 0, []), some (.iload 5, 65, 0, 5, 0, []), none, some (.iadd, 66, 0, 0, 0, []), some (.iastore, 67, 0, 0, 0, []), some (.iinc 5 (1), 70, 1, 5, 0, []), none, none, some (.goto (-67), 73, 0, 3, 0, []), none, none, some (.return_, 74, 0, 0, 0, [])]
-- LineOrigins$Pairing.<init>(I)V
def cd_17 : List (Option En) := [some (.aload_n 0, 1, 0, 0, 0, []), some (.invokespecial 3, 4, 0, 0, 2, []), none, none, some (.aload_n 0, 5, 0, 0, 0, []), some (.bipush (8), 7, 8, 0, 0, []), none, some (.newarray .int, 9, 0, 0, 0, []), none, some (.putfield 9, 12, 0, 3, 1, []), none, none, some (.aload_n 0, 13, 0, 0, 0, []), some (.bipush (64), 15, 64, 0, 0, []), none, some (.newarray .int, 17, 0, 0, 0, []), none, some (.putfield 15, 20, 0, 3, 2, []), none, none, some (.aload_n 0, 21, 0, 0, 0, []), some (.bipush (8), 23, 8, 0, 0, []), none, some (.newarray .int, 25, 0, 0, 0, []), none, some (.putfield 18, 28, 0, 3, 3, []), none, none, some (.aload_n 0, 29, 0, 0, 0, []), some (.bipush (8), 31, 8, 0, 0, []), none, some (.newarray .int, 33, 0, 0, 0, []), none, some (.putfield 21, 36, 0, 3, 4, []), none, none, some (.aload_n 0, 37, 0, 0, 0, []), some (.bipush (81), 39, 81, 0, 0, []), none, some (.newarray .int, 41, 0, 0, 0, []), none, some (.putfield 24, 44, 0, 3, 5, []), none, none, some (.aload_n 0, 45, 0, 0, 0, []), some (.iload_n 1, 46, 0, 1, 0, []), some (.putfield 27, 49, 0, 3, 0, []), none, none, some (.return_, 50, 0, 0, 0, [])]
-- LineOrigins$Pairing.parent(I)I
def cd_18 : List (Option En) := [some (.iload_n 1, 1, 0, 1, 0, []), some (.ifCond .lt (18), 4, 0, 19, 0, []), none, none, some (.iload_n 1, 5, 0, 1, 0, []), some (.bipush (8), 7, 8, 0, 0, []), none, some (.if_icmp .ge (12), 10, 0, 19, 0, []), none, none, some (.aload_n 0, 11, 0, 0, 0, []), some (.getfield 9, 14, 0, 3, 1, []), none, none, some (.iload_n 1, 15, 0, 1, 0, []), some (.iaload, 16, 0, 0, 0, []), some (.goto (5), 19, 0, 21, 0, []), none, none, some (.bipush (-9), 21, -9, 0, 0, []), none, some (.ireturn, 22, 0, 0, 0, [])]
-- LineOrigins$Pairing.pair(II)I
def cd_19 : List (Option En) := [some (.iload_n 1, 1, 0, 1, 0, []), some (.iload_n 2, 2, 0, 2, 0, []), some (.invokestatic 31, 5, 0, 115, 5, []), none, none, some (.ifCond .eq (16), 8, 0, 21, 0, []), none, none, some (.aload_n 0, 9, 0, 0, 0, []), some (.getfield 15, 12, 0, 3, 2, []), none, none, some (.iload_n 1, 13, 0, 1, 0, []), some (.iload_n 2, 14, 0, 2, 0, []), some (.invokestatic 35, 17, 0, 114, 5, []), none, none, some (.iaload, 18, 0, 0, 0, []), some (.goto (5), 21, 0, 23, 0, []), none, none, some (.bipush (-9), 23, -9, 0, 0, []), none, some (.ireturn, 24, 0, 0, 0, [])]
-- LineOrigins$Pairing.isPaired(II)Z
def cd_20 : List (Option En) := [some (.iload_n 1, 1, 0, 1, 0, []), some (.iload_n 2, 2, 0, 2, 0, []), some (.invokestatic 31, 5, 0, 115, 5, []), none, none, some (.ifCond .eq (21), 8, 0, 26, 0, []), none, none, some (.aload_n 0, 9, 0, 0, 0, []), some (.getfield 18, 12, 0, 3, 3, []), none, none, some (.iload_n 1, 13, 0, 1, 0, []), some (.iaload, 14, 0, 0, 0, []), some (.iload_n 2, 15, 0, 2, 0, []), some (.ishr, 16, 0, 0, 0, []), some (.iconst (1), 17, 1, 0, 0, []), some (.iand, 18, 0, 0, 0, []), some (.iconst (1), 19, 1, 0, 0, []), some (.if_icmp .ne (7), 22, 0, 26, 0, []), none, none, some (.iconst (1), 23, 1, 0, 0, []), some (.goto (4), 26, 0, 27, 0, []), none, none, some (.iconst (0), 27, 0, 0, 0, []), some (.ireturn, 28, 0, 0, 0, [])]
-- LineOrigins$Pairing.commonOfAll(I)I
def cd_21 : List (Option En) := [some (.iload_n 1, 1, 0, 1, 0, []), some (.ifCond .lt (18), 4, 0, 19, 0, []), none, none, some (.iload_n 1, 5, 0, 1, 0, []), some (.bipush (8), 7, 8, 0, 0, []), none, some (.if_icmp .ge (12), 10, 0, 19, 0, []), none, none, some (.aload_n 0, 11, 0, 0, 0, []), some (.getfield 21, 14, 0, 3, 4, []), none, none, some (.iload_n 1, 15, 0, 1, 0, []), some (.iaload, 16, 0, 0, 0, []), some (.goto (5), 19, 0, 21, 0, []), none, none, some (.bipush (-9), 21, -9, 0, 0, []), none, some (.ireturn, 22, 0, 0, 0, [])]
-- LineOrigins$Pairing.workOut(LLineOrigins$Revisions;)V
def cd_22 : List (Option En) := [some (.iconst (0), 1, 0, 0, 0, []), some (.istore_n 2, 2, 0, 2, 0, []), some (.iload_n 2, 3, 0, 2, 0, []), some (.bipush (8), 5, 8, 0, 0, []), none, some (.if_icmp .ge (63), 8, 0, 68, 0, []), none, none, some (.aload_n 0, 9, 0, 0, 0, []), some (.iload_n 2, 10, 0, 2, 0, []), some (.invokevirtual 39, 13, 0, 23, 3, []), none, none, some (.aload_n 1, 14, 0, 1, 0, []), some (.iload_n 2, 15, 0, 2, 0, []), some (.aload_n 0, 16, 0, 0, 0, []), some (.getfield 27, 19, 0, 3, 0, []), none, none, some (.invokevirtual 43, 22, 0, 47, 3, []), none, none, some (.istore_n 3, 23, 0, 3, 0, []), some (.aload_n 0, 24, 0, 0, 0, []), some (.getfield 9, 27, 0, 3, 1, []), none, none, some (.iload_n 2, 28, 0, 2, 0, []), some (.iload_n 3, 29, 0, 3, 0, []), some (.iastore, 30, 0, 0, 0, []), some (.iload_n 3, 31, 0, 3, 0, []), some (.bipush (-9), 33, -9, 0, 0, []), none, some (.if_icmp .eq (29), 36, 0, 62, 0, []), none, none, some (.aload_n 0, 37, 0, 0, 0, []), some (.aload_n 1, 38, 0, 1, 0, []), some (.iload_n 3, 39, 0, 3, 0, []), some (.iload_n 2, 40, 0, 2, 0, []), some (.invokevirtual 48, 43, 0, 24, 3, []), none, none, some (.aload_n 0, 44, 0, 0, 0, []), some (.getfield 21, 47, 0, 3, 4, []), none, none, some (.iload_n 2, 48, 0, 2, 0, []), some (.aload_n 0, 49, 0, 0, 0, []), some (.getfield 24, 52, 0, 3, 5, []), none, none, some (.iconst (0), 53, 0, 0, 0, []), some (.iaload, 54, 0, 0, 0, []), some (.iastore, 55, 0, 0, 0, []), some (.aload_n 0, 56, 0, 0, 0, []), some (.aload_n 1, 57, 0, 1, 0, []), some (.iload_n 3, 58, 0, 3, 0, []), some (.iload_n 2, 59, 0, 2, 0, []), some (.invokevirtual 52, 62, 0, 27, 3, []), none, none, some (.iinc 2 (1), 65, 1, 2, 0, []), none, none, some (.goto (-63), 68, 0, 2, 0, []), none, none, some (.return_, 69, 0, 0, 0, [])]
-- LineOrigins$Pairing.becomeUnpaired(I)V
def cd_23 : List (Option En) := [some (.iconst (0), 1, 0, 0, 0, []), some (.istore_n 2, 2, 0, 2, 0, []), some (.iload_n 2, 3, 0, 2, 0, []), some (.bipush (8), 5, 8, 0, 0, []), none, some (.if_icmp .ge (21), 8, 0, 26, 0, []), none, none, some (.aload_n 0, 9, 0, 0, 0, []), some (.getfield 15, 12, 0, 3, 2, []), none, none, some (.iload_n 1, 13, 0, 1, 0, []), some (.iload_n 2, 14, 0, 2, 0, []), some (.invokestatic 35, 17, 0, 114, 5, []), none, none, some (.bipush (-9), 19, -9, 0, 0, []), none, some (.iastore, 20, 0, 0, 0, []), some (.iinc 2 (1), 23, 1, 2, 0, []), none, none, some (.goto (-21), 26, 0, 2, 0, []), none, none, some (.aload_n 0, 27, 0, 0, 0, []), some (.getfield 18, 30, 0, 3, 3, []), none, none, some (.iload_n 1, 31, 0, 1, 0, []), some (.iconst (0), 32, 0, 0, 0, []), some (.iastore, 33, 0, 0, 0, []), some (.aload_n 0, 34, 0, 0, 0, []), some (.getfield 21, 37, 0, 3, 4, []), none, none, some (.iload_n 1, 38, 0, 1, 0, []), some (.bipush (-9), 40, -9, 0, 0, []), none, some (.iastore, 41, 0, 0, 0, []), some (.return_, 42, 0, 0, 0, [])]
-- LineOrigins$Pairing.fillTable(LLineOrigins$Revisions;II)V
def cd_24 : List (Option En) := [some (.aload_n 1, 1, 0, 1, 0, []), some (.iload_n 2, 2, 0, 2, 0, []), some (.invokevirtual 55, 5, 0, 46, 3, []), none, none, some (.istore 4, 7, 0, 4, 0, []), none, some (.aload_n 1, 8, 0, 1, 0, []), some (.iload_n 3, 9, 0, 3, 0, []), some (.invokevirtual 55, 12, 0, 46, 3, []), none, none, some (.istore 5, 14, 0, 5, 0, []), none, some (.iload 4, 16, 0, 4, 0, []), none, some (.istore 6, 18, 0, 6, 0, []), none, some (.iload 6, 20, 0, 6, 0, []), none, some (.ifCond .lt (131), 23, 0, 151, 0, []), none, none, some (.iload 5, 25, 0, 5, 0, []), none, some (.istore 7, 27, 0, 7, 0, []), none, some (.iload 7, 29, 0, 7, 0, []), none, some (.ifCond .lt (116), 32, 0, 145, 0, []), none, none, some (.iconst (0), 33, 0, 0, 0, []), some (.istore 8, 35, 0, 8, 0, []), none, some (.iload 6, 37, 0, 6, 0, []), none, some (.iload 4, 39, 0, 4, 0, []), none, some (.if_icmp .ge (90), 42, 0, 129, 0, []), none, none, some (.iload 7, 44, 0, 7, 0, []), none, some (.iload 5, 46, 0, 5, 0, []), none, some (.if_icmp .ge (83), 49, 0, 129, 0, []), none, none, some (.aload_n 1, 50, 0, 1, 0, []), some (.iload_n 2, 51, 0, 2, 0, []), some (.iload 6, 53, 0, 6, 0, []), none, some (.invokevirtual 59, 56, 0, 48, 3, []), none, none, some (.aload_n 1, 57, 0, 1, 0, []), some (.iload_n 3, 58, 0, 3, 0, []), some (.iload 7, 60, 0, 7, 0, []), none, some (.invokevirtual 59, 63, 0, 48, 3, []), none, none, some (.if_icmp .ne (7), 66, 0, 70, 0, []), none, none, some (.iconst (1), 67, 1, 0, 0, []), some (.goto (4), 70, 0, 71, 0, []), none, none, some (.iconst (0), 71, 0, 0, 0, []), some (.istore 9, 73, 0, 9, 0, []), none, some (.aload_n 0, 74, 0, 0, 0, []), some (.iload 6, 76, 0, 6, 0, []), none, some (.iconst (1), 77, 1, 0, 0, []), some (.iadd, 78, 0, 0, 0, []), some (.iload 7, 80, 0, 7, 0, []), none, some (.invokevirtual 62, 83, 0, 25, 3, []), none, none, some (.aload_n 0, 84, 0, 0, 0, []), some (.iload 6, 86, 0, 6, 0, []), none, some (.iload 7, 88, 0, 7, 0, []), none, some (.iconst (1), 89, 1, 0, 0, []), some (.iadd, 90, 0, 0, 0, []), some (.invokevirtual 62, 93, 0, 25, 3, []), none, none, some (.invokestatic 65, 96, 0, 0, 0, []), none, none, some (.istore 8, 98, 0, 8, 0, []), none, some (.iload 9, 100, 0, 9, 0, []), none, some (.ifCond .eq (25), 103, 0, 125, 0, []), none, none, some (.iload 8, 105, 0, 8, 0, []), none, some (.aload_n 0, 106, 0, 0, 0, []), some (.iload 6, 108, 0, 6, 0, []), none, some (.iconst (1), 109, 1, 0, 0, []), some (.iadd, 110, 0, 0, 0, []), some (.iload 7, 112, 0, 7, 0, []), none, some (.iconst (1), 113, 1, 0, 0, []), some (.iadd, 114, 0, 0, 0, []), some (.invokevirtual 62, 117, 0, 25, 3, []), none, none, some (.iconst (1), 118, 1, 0, 0, []), some (.iadd, 119, 0, 0, 0, []), some (.invokestatic 65, 122, 0, 0, 0, []), none, none, some (.goto (5), 125, 0, 127, 0, []), none, none, some (.iload 8, 127, 0, 8, 0, []), none, some (.istore 8, 129, 0, 8, 0, []), none, some (.aload_n 0, 130, 0, 0, 0, []), some (.iload 6, 132, 0, 6, 0, []), none, some (.iload 7, 134, 0, 7, 0, []), none, some (.iload 8, 136, 0, 8, 0, []), none, some (.invokevirtual 70, 139, 0, 26, 3, []), none, none, some (.iinc 7 (-1), 142, -1, 7, 0, []), none, none, some (.goto (-115), 145, 0, 27, 0, []), none, none, some (.iinc 6 (-1), 148, -1, 6, 0, []), none, none, some (.goto (-130), 151, 0, 18, 0, []), none, none, some (.return_, 152, 0, 0, 0, [])]
-- LineOrigins$Pairing.commonFrom(II)I
def cd_25 : List (Option En) := [some (.iload_n 1, 1, 0, 1, 0, []), some (.ifCond .lt (33), 4, 0, 34, 0, []), none, none, some (.iload_n 1, 5, 0, 1, 0, []), some (.bipush (9), 7, 9, 0, 0, []), none, some (.if_icmp .ge (27), 10, 0, 34, 0, []), none, none, some (.iload_n 2, 11, 0, 2, 0, []), some (.ifCond .lt (23), 14, 0, 34, 0, []), none, none, some (.iload_n 2, 15, 0, 2, 0, []), some (.bipush (9), 17, 9, 0, 0, []), none, some (.if_icmp .ge (17), 20, 0, 34, 0, []), none, none, some (.aload_n 0, 21, 0, 0, 0, []), some (.getfield 24, 24, 0, 3, 5, []), none, none, some (.iload_n 1, 25, 0, 1, 0, []), some (.bipush (9), 27, 9, 0, 0, []), none, some (.imul, 28, 0, 0, 0, []), some (.iload_n 2, 29, 0, 2, 0, []), some (.iadd, 30, 0, 0, 0, []), some (.iaload, 31, 0, 0, 0, []), some (.goto (4), 34, 0, 35, 0, []), none, none, some (.iconst (0), 35, 0, 0, 0, []), some (.ireturn, 36, 0, 0, 0, [])]
-- LineOrigins$Pairing.setCommonFrom(III)V
def cd_26 : List (Option En) := [some (.iload_n 1, 1, 0, 1, 0, []), some (.ifCond .lt (31), 4, 0, 32, 0, []), none, none, some (.iload_n 1, 5, 0, 1, 0, []), some (.bipush (9), 7, 9, 0, 0, []), none, some (.if_icmp .ge (25), 10, 0, 32, 0, []), none, none, some (.iload_n 2, 11, 0, 2, 0, []), some (.ifCond .lt (21), 14, 0, 32, 0, []), none, none, some (.iload_n 2, 15, 0, 2, 0, []), some (.bipush (9), 17, 9, 0, 0, []), none, some (.if_icmp .ge (15), 20, 0, 32, 0, []), none, none, some (.aload_n 0, 21, 0, 0, 0, []), some (.getfield 24, 24, 0, 3, 5, []), none, none, some (.iload_n 1, 25, 0, 1, 0, []), some (.bipush (9), 27, 9, 0, 0, []), none, some (.imul, 28, 0, 0, 0, []), some (.iload_n 2, 29, 0, 2, 0, []), some (.iadd, 30, 0, 0, 0, []), some (.iload_n 3, 31, 0, 3, 0, []), some (.iastore, 32, 0, 0, 0, []), some (.return_, 33, 0, 0, 0, [])]
-- LineOrigins$Pairing.walk(LLineOrigins$Revisions;II)V
def cd_27 : List (Option En) := [some (.iconst (0), 1, 0, 0, 0, []), some (.istore 4, 3, 0, 4, 0, []), none, some (.iconst (0), 4, 0, 0, 0, []), some (.istore 5, 6, 0, 5, 0, []), none, some (.iload 4, 8, 0, 4, 0, []), none, some (.aload_n 1, 9, 0, 1, 0, []), some (.iload_n 2, 10, 0, 2, 0, []), some (.invokevirtual 55, 13, 0, 46, 3, []), none, none, some (.if_icmp .ge (120), 16, 0, 133, 0, []), none, none, some (.iload 5, 18, 0, 5, 0, []), none, some (.aload_n 1, 19, 0, 1, 0, []), some (.iload_n 3, 20, 0, 3, 0, []), some (.invokevirtual 55, 23, 0, 46, 3, []), none, none, some (.if_icmp .ge (110), 26, 0, 133, 0, []), none, none, some (.aload_n 1, 27, 0, 1, 0, []), some (.iload_n 2, 28, 0, 2, 0, []), some (.iload 4, 30, 0, 4, 0, []), none, some (.invokevirtual 59, 33, 0, 48, 3, []), none, none, some (.aload_n 1, 34, 0, 1, 0, []), some (.iload_n 3, 35, 0, 3, 0, []), some (.iload 5, 37, 0, 5, 0, []), none, some (.invokevirtual 59, 40, 0, 48, 3, []), none, none, some (.if_icmp .ne (7), 43, 0, 47, 0, []), none, none, some (.iconst (1), 44, 1, 0, 0, []), some (.goto (4), 47, 0, 48, 0, []), none, none, some (.iconst (0), 48, 0, 0, 0, []), some (.istore 6, 50, 0, 6, 0, []), none, some (.iload 6, 52, 0, 6, 0, []), none, some (.ifCond .eq (46), 55, 0, 98, 0, []), none, none, some (.aload_n 0, 56, 0, 0, 0, []), some (.iload 4, 58, 0, 4, 0, []), none, some (.iload 5, 60, 0, 5, 0, []), none, some (.invokevirtual 62, 63, 0, 25, 3, []), none, none, some (.aload_n 0, 64, 0, 0, 0, []), some (.iload 4, 66, 0, 4, 0, []), none, some (.iconst (1), 67, 1, 0, 0, []), some (.iadd, 68, 0, 0, 0, []), some (.iload 5, 70, 0, 5, 0, []), none, some (.iconst (1), 71, 1, 0, 0, []), some (.iadd, 72, 0, 0, 0, []), some (.invokevirtual 62, 75, 0, 25, 3, []), none, none, some (.iconst (1), 76, 1, 0, 0, []), some (.iadd, 77, 0, 0, 0, []), some (.if_icmp .ne (21), 80, 0, 98, 0, []), none, none, some (.aload_n 0, 81, 0, 0, 0, []), some (.iload_n 3, 82, 0, 3, 0, []), some (.iload 4, 84, 0, 4, 0, []), none, some (.iload 5, 86, 0, 5, 0, []), none, some (.invokevirtual 74, 89, 0, 28, 3, []), none, none, some (.iinc 4 (1), 92, 1, 4, 0, []), none, none, some (.iinc 5 (1), 95, 1, 5, 0, []), none, none, some (.goto (35), 98, 0, 130, 0, []), none, none, some (.aload_n 0, 99, 0, 0, 0, []), some (.iload 4, 101, 0, 4, 0, []), none, some (.iconst (1), 102, 1, 0, 0, []), some (.iadd, 103, 0, 0, 0, []), some (.iload 5, 105, 0, 5, 0, []), none, some (.invokevirtual 62, 108, 0, 25, 3, []), none, none, some (.aload_n 0, 109, 0, 0, 0, []), some (.iload 4, 111, 0, 4, 0, []), none, some (.iload 5, 113, 0, 5, 0, []), none, some (.iconst (1), 114, 1, 0, 0, []), some (.iadd, 115, 0, 0, 0, []), some (.invokevirtual 62, 118, 0, 25, 3, []), none, none, some (.if_icmp .lt (9), 121, 0, 127, 0, []), none, none, some (.iinc 4 (1), 124, 1, 4, 0, []), none, none, some (.goto (6), 127, 0, 130, 0, []), none, none, some (.iinc 5 (1), 130, 1, 5, 0, []), none, none, some (.goto (-124), 133, 0, 6, 0, []), none, none, some (.return_, 134, 0, 0, 0, [])]
-- LineOrigins$Pairing.setPair(III)V
def cd_28 : List (Option En) := [some (.iload_n 1, 1, 0, 1, 0, []), some (.iload_n 3, 2, 0, 3, 0, []), some (.invokestatic 31, 5, 0, 115, 5, []), none, none, some (.ifCond .eq (26), 8, 0, 31, 0, []), none, none, some (.aload_n 0, 9, 0, 0, 0, []), some (.getfield 15, 12, 0, 3, 2, []), none, none, some (.iload_n 1, 13, 0, 1, 0, []), some (.iload_n 3, 14, 0, 3, 0, []), some (.invokestatic 35, 17, 0, 114, 5, []), none, none, some (.iload_n 2, 18, 0, 2, 0, []), some (.iastore, 19, 0, 0, 0, []), some (.aload_n 0, 20, 0, 0, 0, []), some (.getfield 18, 23, 0, 3, 3, []), none, none, some (.iload_n 1, 24, 0, 1, 0, []), some (.dup2, 25, 0, 0, 0, []), some (.iaload, 26, 0, 0, 0, []), some (.iconst (1), 27, 1, 0, 0, []), some (.iload_n 2, 28, 0, 2, 0, []), some (.ishl, 29, 0, 0, 0, []), some (.ior, 30, 0, 0, 0, []), some (.iastore, 31, 0, 0, 0, []), some (.return_, 32, 0, 0, 0, [])]
-- LineOrigins$Parentage.<init>()V
def cd_29 : List (Option En) := [some (.aload_n 0, 1, 0, 0, 0, []), some (.invokespecial 3, 4, 0, 0, 2, []), none, none, some (.aload_n 0, 5, 0, 0, 0, []), some (.new 9, 8, 0, 3, 0, []), none, none, some (.dup, 9, 0, 0, 0, []), some (.iconst (0), 10, 0, 0, 0, []), some (.invokespecial 11, 13, 0, 17, 6, []), none, none, some (.putfield 14, 16, 0, 4, 0, []), none, none, some (.aload_n 0, 17, 0, 0, 0, []), some (.new 9, 20, 0, 3, 0, []), none, none, some (.dup, 21, 0, 0, 0, []), some (.iconst (1), 22, 1, 0, 0, []), some (.invokespecial 11, 25, 0, 17, 6, []), none, none, some (.putfield 20, 28, 0, 4, 1, []), none, none, some (.aload_n 0, 29, 0, 0, 0, []), some (.new 23, 32, 0, 2, 0, []), none, none, some (.dup, 33, 0, 0, 0, []), some (.invokespecial 25, 36, 0, 10, 7, []), none, none, some (.putfield 26, 39, 0, 4, 2, []), none, none, some (.aload_n 0, 40, 0, 0, 0, []), some (.new 30, 43, 0, 1, 0, []), none, none, some (.dup, 44, 0, 0, 0, []), some (.invokespecial 32, 47, 0, 6, 7, []), none, none, some (.putfield 33, 50, 0, 4, 3, []), none, none, some (.return_, 51, 0, 0, 0, [])]
-- LineOrigins$Parentage.workOut(LLineOrigins$Revisions;)V
def cd_30 : List (Option En) := [some (.aload_n 0, 1, 0, 0, 0, []), some (.getfield 14, 4, 0, 4, 0, []), none, none, some (.aload_n 1, 5, 0, 1, 0, []), some (.invokevirtual 37, 8, 0, 22, 3, []), none, none, some (.aload_n 0, 9, 0, 0, 0, []), some (.getfield 20, 12, 0, 4, 1, []), none, none, some (.aload_n 1, 13, 0, 1, 0, []), some (.invokevirtual 37, 16, 0, 22, 3, []), none, none, some (.aload_n 0, 17, 0, 0, 0, []), some (.getfield 26, 20, 0, 4, 2, []), none, none, some (.aload_n 1, 21, 0, 1, 0, []), some (.aload_n 0, 22, 0, 0, 0, []), some (.getfield 14, 25, 0, 4, 0, []), none, none, some (.invokevirtual 41, 28, 0, 13, 3, []), none, none, some (.aload_n 0, 29, 0, 0, 0, []), some (.getfield 33, 32, 0, 4, 3, []), none, none, some (.aload_n 1, 33, 0, 1, 0, []), some (.aload_n 0, 34, 0, 0, 0, []), some (.getfield 14, 37, 0, 4, 0, []), none, none, some (.invokevirtual 44, 40, 0, 8, 3, []), none, none, some (.return_, 41, 0, 0, 0, [])]
-- LineOrigins$Parentage.pair(III)I
def cd_31 : List (Option En) := [some (.iload_n 1, 1, 0, 1, 0, []), some (.ifCond .ne (15), 4, 0, 16, 0, []), none, none, some (.aload_n 0, 5, 0, 0, 0, []), some (.getfield 14, 8, 0, 4, 0, []), none, none, some (.iload_n 2, 9, 0, 2, 0, []), some (.iload_n 3, 10, 0, 3, 0, []), some (.invokevirtual 45, 13, 0, 19, 3, []), none, none, some (.goto (12), 16, 0, 25, 0, []), none, none, some (.aload_n 0, 17, 0, 0, 0, []), some (.getfield 20, 20, 0, 4, 1, []), none, none, some (.iload_n 2, 21, 0, 2, 0, []), some (.iload_n 3, 22, 0, 3, 0, []), some (.invokevirtual 45, 25, 0, 19, 3, []), none, none, some (.ireturn, 26, 0, 0, 0, [])]
-- LineOrigins$Parentage.commonOfAll(II)I
def cd_32 : List (Option En) := [some (.iload_n 1, 1, 0, 1, 0, []), some (.ifCond .ne (14), 4, 0, 15, 0, []), none, none, some (.aload_n 0, 5, 0, 0, 0, []), some (.getfield 14, 8, 0, 4, 0, []), none, none, some (.iload_n 2, 9, 0, 2, 0, []), some (.invokevirtual 49, 12, 0, 21, 3, []), none, none, some (.goto (11), 15, 0, 23, 0, []), none, none, some (.aload_n 0, 16, 0, 0, 0, []), some (.getfield 20, 19, 0, 4, 1, []), none, none, some (.iload_n 2, 20, 0, 2, 0, []), some (.invokevirtual 49, 23, 0, 21, 3, []), none, none, some (.ireturn, 24, 0, 0, 0, [])]
-- LineOrigins$Parentage.given(IIILLineOrigins$Settings;)I
def cd_33 : List (Option En) := [some (.iload_n 1, 1, 0, 1, 0, []), some (.iconst (1), 2, 1, 0, 0, []), some (.if_icmp .ne (14), 5, 0, 16, 0, []), none, none, some (.aload_n 0, 6, 0, 0, 0, []), some (.getfield 20, 9, 0, 4, 1, []), none, none, some (.iload_n 2, 10, 0, 2, 0, []), some (.invokevirtual 53, 13, 0, 18, 3, []), none, none, some (.goto (11), 16, 0, 24, 0, []), none, none, some (.aload_n 0, 17, 0, 0, 0, []), some (.getfield 14, 20, 0, 4, 0, []), none, none, some (.iload_n 2, 21, 0, 2, 0, []), some (.invokevirtual 53, 24, 0, 18, 3, []), none, none, some (.istore 5, 26, 0, 5, 0, []), none, some (.aload_n 0, 27, 0, 0, 0, []), some (.iload_n 1, 28, 0, 1, 0, []), some (.iload_n 2, 29, 0, 2, 0, []), some (.iload_n 3, 30, 0, 3, 0, []), some (.aload 4, 32, 0, 4, 0, []), none, some (.invokevirtual 56, 35, 0, 34, 3, []), none, none, some (.istore 6, 37, 0, 6, 0, []), none, some (.iload 5, 39, 0, 5, 0, []), none, some (.bipush (-9), 41, -9, 0, 0, []), none, some (.if_icmp .eq (10), 44, 0, 51, 0, []), none, none, some (.iload 6, 46, 0, 6, 0, []), none, some (.bipush (-9), 48, -9, 0, 0, []), none, some (.if_icmp .ne (8), 51, 0, 56, 0, []), none, none, some (.bipush (-9), 53, -9, 0, 0, []), none, some (.goto (10), 56, 0, 63, 0, []), none, none, some (.iload 5, 58, 0, 5, 0, []), none, some (.iload 6, 60, 0, 6, 0, []), none, some (.invokestatic 60, 63, 0, 114, 5, []), none, none, some (.ireturn, 64, 0, 0, 0, [])]
-- LineOrigins$Parentage.sourceBy(IIILLineOrigins$Settings;)I
def cd_34 : List (Option En) := [some (.iload_n 1, 1, 0, 1, 0, []), some (.tableswitch (107) (0) (3) #[31, 41, 51, 83], 32, 0, 0, 0, [108, 32, 42, 52, 84]), none, none, none, none, none, none, none, none, none, none, none, none, none, none, none, none, none, none, none, none, none, none, none, none, none, none, none, none, none, none, some (.aload_n 0, 33, 0, 0, 0, []), some (.getfield 14, 36, 0, 4, 0, []), none, none, some (.iload_n 2, 37, 0, 2, 0, []), some (.iload_n 3, 38, 0, 3, 0, []), some (.invokevirtual 45, 41, 0, 19, 3, []), none, none, some (.ireturn, 42, 0, 0, 0, []), some (.aload_n 0, 43, 0, 0, 0, []), some (.getfield 20, 46, 0, 4, 1, []), none, none, some (.iload_n 2, 47, 0, 2, 0, []), some (.iload_n 3, 48, 0, 3, 0, []), some (.invokevirtual 45, 51, 0, 19, 3, []), none, none, some (.ireturn, 52, 0, 0, 0, []), some (.aload 4, 54, 0, 4, 0, []), none, some (.aload_n 0, 55, 0, 0, 0, []), some (.getfield 26, 58, 0, 4, 2, []), none, none, some (.iload_n 2, 59, 0, 2, 0, []), some (.iload_n 3, 60, 0, 3, 0, []), some (.invokevirtual 63, 63, 0, 11, 3, []), none, none, some (.invokevirtual 66, 66, 0, 62, 3, []), none, none, some (.ifCond .eq (15), 69, 0, 81, 0, []), none, none, some (.aload_n 0, 70, 0, 0, 0, []), some (.getfield 26, 73, 0, 4, 2, []), none, none, some (.iload_n 2, 74, 0, 2, 0, []), some (.iload_n 3, 75, 0, 3, 0, []), some (.invokevirtual 72, 78, 0, 12, 3, []), none, none, some (.goto (5), 81, 0, 83, 0, []), none, none, some (.bipush (-9), 83, -9, 0, 0, []), none, some (.ireturn, 84, 0, 0, 0, []), some (.aload 4, 86, 0, 4, 0, []), none, some (.iload_n 2, 87, 0, 2, 0, []), some (.invokevirtual 75, 90, 0, 64, 3, []), none, none, some (.ifCond .eq (15), 93, 0, 105, 0, []), none, none, some (.aload_n 0, 94, 0, 0, 0, []), some (.getfield 33, 97, 0, 4, 3, []), none, none, some (.iload_n 2, 98, 0, 2, 0, []), some (.iload_n 3, 99, 0, 3, 0, []), some (.invokevirtual 78, 102, 0, 7, 3, []), none, none, some (.goto (5), 105, 0, 107, 0, []), none, none, some (.bipush (-9), 107, -9, 0, 0, []), none, some (.ireturn, 108, 0, 0, 0, []), some (.bipush (-9), 110, -9, 0, 0, []), none, some (.ireturn, 111, 0, 0, 0, [])]
-- LineOrigins$Reader.<init>()V
def cd_35 : List (Option En) := [some (.aload_n 0, 1, 0, 0, 0, []), some (.invokespecial 3, 4, 0, 0, 2, []), none, none, some (.aload_n 0, 5, 0, 0, 0, []), some (.iconst (0), 6, 0, 0, 0, []), some (.putfield 11, 9, 0, 5, 0, []), none, none, some (.return_, 10, 0, 0, 0, [])]
-- LineOrigins$Reader.read(LLineOrigins$Text;LLineOrigins$Revisions;)I
def cd_36 : List (Option En) := [some (.aload_n 0, 1, 0, 0, 0, []), some (.iconst (0), 2, 0, 0, 0, []), some (.putfield 11, 5, 0, 5, 0, []), none, none, some (.aload_n 2, 6, 0, 2, 0, []), some (.invokevirtual 15, 9, 0, 50, 3, []), none, none, some (.iconst (0), 10, 0, 0, 0, []), some (.istore_n 3, 11, 0, 3, 0, []), some (.iload_n 3, 12, 0, 3, 0, []), some (.aload_n 1, 13, 0, 1, 0, []), some (.invokevirtual 20, 16, 0, 75, 3, []), none, none, some (.if_icmp .ge (29), 19, 0, 45, 0, []), none, none, some (.aload_n 1, 20, 0, 1, 0, []), some (.iload_n 3, 21, 0, 3, 0, []), some (.invokestatic 26, 24, 0, 37, 4, []), none, none, some (.ifCond .eq (15), 27, 0, 39, 0, []), none, none, some (.aload_n 0, 28, 0, 0, 0, []), some (.aload_n 1, 29, 0, 1, 0, []), some (.iload_n 3, 30, 0, 3, 0, []), some (.aload_n 2, 31, 0, 2, 0, []), some (.invokevirtual 30, 34, 0, 38, 3, []), none, none, some (.ifCond .ne (5), 37, 0, 39, 0, []), none, none, some (.iload_n 3, 38, 0, 3, 0, []), some (.ireturn, 39, 0, 0, 0, []), some (.iinc 3 (1), 42, 1, 3, 0, []), none, none, some (.goto (-31), 45, 0, 11, 0, []), none, none, some (.aload_n 0, 46, 0, 0, 0, []), some (.getfield 11, 49, 0, 5, 0, []), none, none, some (.ifCond .ne (7), 52, 0, 56, 0, []), none, none, some (.iconst (-1), 53, -1, 0, 0, []), some (.goto (7), 56, 0, 60, 0, []), none, none, some (.aload_n 1, 57, 0, 1, 0, []), some (.invokevirtual 20, 60, 0, 75, 3, []), none, none, some (.ireturn, 61, 0, 0, 0, [])]
-- LineOrigins$Reader.beginsToken(LLineOrigins$Text;I)Z
def cd_37 : List (Option En) := [some (.aload_n 0, 1, 0, 0, 0, []), some (.iload_n 1, 2, 0, 1, 0, []), some (.invokevirtual 34, 5, 0, 78, 3, []), none, none, some (.bipush (32), 7, 32, 0, 0, []), none, some (.if_icmp .ne (5), 10, 0, 12, 0, []), none, none, some (.iconst (0), 11, 0, 0, 0, []), some (.ireturn, 12, 0, 0, 0, []), some (.aload_n 0, 13, 0, 0, 0, []), some (.iload_n 1, 14, 0, 1, 0, []), some (.invokevirtual 38, 17, 0, 79, 3, []), none, none, some (.ifCond .eq (13), 20, 0, 30, 0, []), none, none, some (.aload_n 0, 21, 0, 0, 0, []), some (.iload_n 1, 22, 0, 1, 0, []), some (.iconst (1), 23, 1, 0, 0, []), some (.isub, 24, 0, 0, 0, []), some (.invokevirtual 38, 27, 0, 79, 3, []), none, none, some (.ifCond .ne (7), 30, 0, 34, 0, []), none, none, some (.iconst (1), 31, 1, 0, 0, []), some (.goto (4), 34, 0, 35, 0, []), none, none, some (.iconst (0), 35, 0, 0, 0, []), some (.ireturn, 36, 0, 0, 0, [])]
-- LineOrigins$Reader.takes(LLineOrigins$Text;ILLineOrigins$Revisions;)Z
def cd_38 : List (Option En) := [some (.aload_n 1, 1, 0, 1, 0, []), some (.iload_n 2, 2, 0, 2, 0, []), some (.invokevirtual 34, 5, 0, 78, 3, []), none, none, some (.istore 4, 7, 0, 4, 0, []), none, some (.iload 4, 9, 0, 4, 0, []), none, some (.bipush (82), 11, 82, 0, 0, []), none, some (.if_icmp .ne (9), 14, 0, 20, 0, []), none, none, some (.aload_n 0, 15, 0, 0, 0, []), some (.aload_n 3, 16, 0, 3, 0, []), some (.invokevirtual 42, 19, 0, 39, 3, []), none, none, some (.ireturn, 20, 0, 0, 0, []), some (.iload 4, 22, 0, 4, 0, []), none, some (.bipush (58), 24, 58, 0, 0, []), none, some (.if_icmp .ne (8), 27, 0, 32, 0, []), none, none, some (.aload_n 0, 28, 0, 0, 0, []), some (.invokevirtual 46, 31, 0, 40, 3, []), none, none, some (.ireturn, 32, 0, 0, 0, []), some (.iload 4, 34, 0, 4, 0, []), none, some (.bipush (59), 36, 59, 0, 0, []), none, some (.if_icmp .ne (9), 39, 0, 45, 0, []), none, none, some (.aload_n 0, 40, 0, 0, 0, []), some (.aload_n 3, 41, 0, 3, 0, []), some (.invokevirtual 50, 44, 0, 41, 3, []), none, none, some (.ireturn, 45, 0, 0, 0, []), some (.iload 4, 47, 0, 4, 0, []), none, some (.bipush (97), 49, 97, 0, 0, []), none, some (.if_icmp .lt (33), 52, 0, 82, 0, []), none, none, some (.iload 4, 54, 0, 4, 0, []), none, some (.bipush (122), 56, 122, 0, 0, []), none, some (.if_icmp .gt (26), 59, 0, 82, 0, []), none, none, some (.aload_n 0, 60, 0, 0, 0, []), some (.getfield 11, 63, 0, 5, 0, []), none, none, some (.iconst (2), 64, 2, 0, 0, []), some (.if_icmp .ne (16), 67, 0, 80, 0, []), none, none, some (.aload_n 3, 68, 0, 3, 0, []), some (.iload 4, 70, 0, 4, 0, []), none, some (.invokevirtual 53, 73, 0, 53, 3, []), none, none, some (.ifCond .eq (7), 76, 0, 80, 0, []), none, none, some (.iconst (1), 77, 1, 0, 0, []), some (.goto (4), 80, 0, 81, 0, []), none, none, some (.iconst (0), 81, 0, 0, 0, []), some (.ireturn, 82, 0, 0, 0, []), some (.aload_n 0, 83, 0, 0, 0, []), some (.getfield 11, 86, 0, 5, 0, []), none, none, some (.iconst (1), 87, 1, 0, 0, []), some (.if_icmp .ne (19), 90, 0, 106, 0, []), none, none, some (.aload_n 3, 91, 0, 3, 0, []), some (.aload_n 1, 92, 0, 1, 0, []), some (.iload_n 2, 93, 0, 2, 0, []), some (.invokevirtual 56, 96, 0, 80, 3, []), none, none, some (.invokevirtual 59, 99, 0, 52, 3, []), none, none, some (.ifCond .eq (7), 102, 0, 106, 0, []), none, none, some (.iconst (1), 103, 1, 0, 0, []), some (.goto (4), 106, 0, 107, 0, []), none, none, some (.iconst (0), 107, 0, 0, 0, []), some (.ireturn, 108, 0, 0, 0, [])]
-- LineOrigins$Reader.takesRevision(LLineOrigins$Revisions;)Z
def cd_39 : List (Option En) := [some (.aload_n 0, 1, 0, 0, 0, []), some (.getfield 11, 4, 0, 5, 0, []), none, none, some (.ifCond .ne (10), 7, 0, 14, 0, []), none, none, some (.aload_n 1, 8, 0, 1, 0, []), some (.invokevirtual 62, 11, 0, 51, 3, []), none, none, some (.ifCond .ne (5), 14, 0, 16, 0, []), none, none, some (.iconst (0), 15, 0, 0, 0, []), some (.ireturn, 16, 0, 0, 0, []), some (.aload_n 0, 17, 0, 0, 0, []), some (.iconst (1), 18, 1, 0, 0, []), some (.putfield 11, 21, 0, 5, 0, []), none, none, some (.iconst (1), 22, 1, 0, 0, []), some (.ireturn, 23, 0, 0, 0, [])]
-- LineOrigins$Reader.takesColon()Z
def cd_40 : List (Option En) := [some (.aload_n 0, 1, 0, 0, 0, []), some (.getfield 11, 4, 0, 5, 0, []), none, none, some (.iconst (1), 5, 1, 0, 0, []), some (.if_icmp .eq (5), 8, 0, 10, 0, []), none, none, some (.iconst (0), 9, 0, 0, 0, []), some (.ireturn, 10, 0, 0, 0, []), some (.aload_n 0, 11, 0, 0, 0, []), some (.iconst (2), 12, 2, 0, 0, []), some (.putfield 11, 15, 0, 5, 0, []), none, none, some (.iconst (1), 16, 1, 0, 0, []), some (.ireturn, 17, 0, 0, 0, [])]
-- LineOrigins$Reader.takesEnd(LLineOrigins$Revisions;)Z
def cd_41 : List (Option En) := [some (.aload_n 0, 1, 0, 0, 0, []), some (.getfield 11, 4, 0, 5, 0, []), none, none, some (.iconst (2), 5, 2, 0, 0, []), some (.if_icmp .eq (5), 8, 0, 10, 0, []), none, none, some (.iconst (0), 9, 0, 0, 0, []), some (.ireturn, 10, 0, 0, 0, []), some (.aload_n 1, 11, 0, 1, 0, []), some (.invokevirtual 65, 14, 0, 54, 3, []), none, none, some (.aload_n 0, 15, 0, 0, 0, []), some (.iconst (0), 16, 0, 0, 0, []), some (.putfield 11, 19, 0, 5, 0, []), none, none, some (.iconst (1), 20, 1, 0, 0, []), some (.ireturn, 21, 0, 0, 0, [])]
-- LineOrigins$Revisions.<init>()V
def cd_42 : List (Option En) := [some (.aload_n 0, 1, 0, 0, 0, []), some (.invokespecial 3, 4, 0, 0, 2, []), none, none, some (.aload_n 0, 5, 0, 0, 0, []), some (.iconst (0), 6, 0, 0, 0, []), some (.putfield 9, 9, 0, 6, 0, []), none, none, some (.aload_n 0, 10, 0, 0, 0, []), some (.bipush (16), 12, 16, 0, 0, []), none, some (.newarray .int, 14, 0, 0, 0, []), none, some (.putfield 15, 17, 0, 6, 1, []), none, none, some (.aload_n 0, 18, 0, 0, 0, []), some (.bipush (8), 20, 8, 0, 0, []), none, some (.newarray .int, 22, 0, 0, 0, []), none, some (.putfield 19, 25, 0, 6, 2, []), none, none, some (.aload_n 0, 26, 0, 0, 0, []), some (.bipush (64), 28, 64, 0, 0, []), none, some (.newarray .int, 30, 0, 0, 0, []), none, some (.putfield 22, 33, 0, 6, 3, []), none, none, some (.return_, 34, 0, 0, 0, [])]
-- LineOrigins$Revisions.told()I
def cd_43 : List (Option En) := [some (.aload_n 0, 1, 0, 0, 0, []), some (.getfield 9, 4, 0, 6, 0, []), none, none, some (.ireturn, 5, 0, 0, 0, [])]
-- LineOrigins$Revisions.has(I)Z
def cd_44 : List (Option En) := [some (.iload_n 1, 1, 0, 1, 0, []), some (.ifCond .lt (21), 4, 0, 22, 0, []), none, none, some (.iload_n 1, 5, 0, 1, 0, []), some (.aload_n 0, 6, 0, 0, 0, []), some (.getfield 9, 9, 0, 6, 0, []), none, none, some (.if_icmp .ge (13), 12, 0, 22, 0, []), none, none, some (.iload_n 1, 13, 0, 1, 0, []), some (.bipush (8), 15, 8, 0, 0, []), none, some (.if_icmp .ge (7), 18, 0, 22, 0, []), none, none, some (.iconst (1), 19, 1, 0, 0, []), some (.goto (4), 22, 0, 23, 0, []), none, none, some (.iconst (0), 23, 0, 0, 0, []), some (.ireturn, 24, 0, 0, 0, [])]
-- LineOrigins$Revisions.hasLine(II)Z
def cd_45 : List (Option En) := [some (.iload_n 1, 1, 0, 1, 0, []), some (.ifCond .lt (35), 4, 0, 36, 0, []), none, none, some (.iload_n 1, 5, 0, 1, 0, []), some (.aload_n 0, 6, 0, 0, 0, []), some (.getfield 9, 9, 0, 6, 0, []), none, none, some (.if_icmp .ge (27), 12, 0, 36, 0, []), none, none, some (.iload_n 1, 13, 0, 1, 0, []), some (.bipush (8), 15, 8, 0, 0, []), none, some (.if_icmp .ge (21), 18, 0, 36, 0, []), none, none, some (.iload_n 2, 19, 0, 2, 0, []), some (.ifCond .lt (17), 22, 0, 36, 0, []), none, none, some (.iload_n 2, 23, 0, 2, 0, []), some (.aload_n 0, 24, 0, 0, 0, []), some (.getfield 19, 27, 0, 6, 2, []), none, none, some (.iload_n 1, 28, 0, 1, 0, []), some (.iaload, 29, 0, 0, 0, []), some (.if_icmp .ge (7), 32, 0, 36, 0, []), none, none, some (.iconst (1), 33, 1, 0, 0, []), some (.goto (4), 36, 0, 37, 0, []), none, none, some (.iconst (0), 37, 0, 0, 0, []), some (.ireturn, 38, 0, 0, 0, [])]
-- LineOrigins$Revisions.size(I)I
def cd_46 : List (Option En) := [some (.aload_n 0, 1, 0, 0, 0, []), some (.iload_n 1, 2, 0, 1, 0, []), some (.invokevirtual 25, 5, 0, 44, 3, []), none, none, some (.ifCond .eq (12), 8, 0, 17, 0, []), none, none, some (.aload_n 0, 9, 0, 0, 0, []), some (.getfield 19, 12, 0, 6, 2, []), none, none, some (.iload_n 1, 13, 0, 1, 0, []), some (.iaload, 14, 0, 0, 0, []), some (.goto (4), 17, 0, 18, 0, []), none, none, some (.iconst (0), 18, 0, 0, 0, []), some (.ireturn, 19, 0, 0, 0, [])]
-- LineOrigins$Revisions.parent(II)I
def cd_47 : List (Option En) := [some (.aload_n 0, 1, 0, 0, 0, []), some (.iload_n 1, 2, 0, 1, 0, []), some (.invokevirtual 25, 5, 0, 44, 3, []), none, none, some (.ifCond .eq (12), 8, 0, 17, 0, []), none, none, some (.iload_n 2, 9, 0, 2, 0, []), some (.ifCond .lt (8), 12, 0, 17, 0, []), none, none, some (.iload_n 2, 13, 0, 2, 0, []), some (.iconst (2), 14, 2, 0, 0, []), some (.if_icmp .lt (6), 17, 0, 20, 0, []), none, none, some (.bipush (-9), 19, -9, 0, 0, []), none, some (.ireturn, 20, 0, 0, 0, []), some (.aload_n 0, 21, 0, 0, 0, []), some (.getfield 15, 24, 0, 6, 1, []), none, none, some (.iload_n 1, 25, 0, 1, 0, []), some (.iconst (2), 26, 2, 0, 0, []), some (.imul, 27, 0, 0, 0, []), some (.iload_n 2, 28, 0, 2, 0, []), some (.iadd, 29, 0, 0, 0, []), some (.iaload, 30, 0, 0, 0, []), some (.ireturn, 31, 0, 0, 0, [])]
-- LineOrigins$Revisions.letter(II)I
def cd_48 : List (Option En) := [some (.aload_n 0, 1, 0, 0, 0, []), some (.iload_n 1, 2, 0, 1, 0, []), some (.iload_n 2, 3, 0, 2, 0, []), some (.invokevirtual 29, 6, 0, 45, 3, []), none, none, some (.ifCond .eq (22), 9, 0, 28, 0, []), none, none, some (.iload_n 2, 10, 0, 2, 0, []), some (.bipush (8), 12, 8, 0, 0, []), none, some (.if_icmp .ge (16), 15, 0, 28, 0, []), none, none, some (.aload_n 0, 16, 0, 0, 0, []), some (.getfield 22, 19, 0, 6, 3, []), none, none, some (.iload_n 1, 20, 0, 1, 0, []), some (.iload_n 2, 21, 0, 2, 0, []), some (.invokestatic 33, 24, 0, 114, 5, []), none, none, some (.iaload, 25, 0, 0, 0, []), some (.goto (5), 28, 0, 30, 0, []), none, none, some (.bipush (-9), 30, -9, 0, 0, []), none, some (.ireturn, 31, 0, 0, 0, [])]
-- LineOrigins$Revisions.allLines()I
def cd_49 : List (Option En) := [some (.iconst (0), 1, 0, 0, 0, []), some (.istore_n 1, 2, 0, 1, 0, []), some (.iconst (0), 3, 0, 0, 0, []), some (.istore_n 2, 4, 0, 2, 0, []), some (.iload_n 2, 5, 0, 2, 0, []), some (.aload_n 0, 6, 0, 0, 0, []), some (.getfield 9, 9, 0, 6, 0, []), none, none, some (.if_icmp .ge (24), 12, 0, 33, 0, []), none, none, some (.iload_n 2, 13, 0, 2, 0, []), some (.bipush (8), 15, 8, 0, 0, []), none, some (.if_icmp .ge (18), 18, 0, 33, 0, []), none, none, some (.iload_n 1, 19, 0, 1, 0, []), some (.aload_n 0, 20, 0, 0, 0, []), some (.getfield 19, 23, 0, 6, 2, []), none, none, some (.iload_n 2, 24, 0, 2, 0, []), some (.iaload, 25, 0, 0, 0, []), some (.iadd, 26, 0, 0, 0, []), some (.istore_n 1, 27, 0, 1, 0, []), some (.iinc 2 (1), 30, 1, 2, 0, []), none, none, some (.goto (-26), 33, 0, 4, 0, []), none, none, some (.iload_n 1, 34, 0, 1, 0, []), some (.ireturn, 35, 0, 0, 0, [])]
-- LineOrigins$Revisions.becomeEmpty()V
def cd_50 : List (Option En) := [some (.aload_n 0, 1, 0, 0, 0, []), some (.iconst (0), 2, 0, 0, 0, []), some (.putfield 9, 5, 0, 6, 0, []), none, none, some (.return_, 6, 0, 0, 0, [])]
-- LineOrigins$Revisions.begin()Z
def cd_51 : List (Option En) := [some (.aload_n 0, 1, 0, 0, 0, []), some (.getfield 9, 4, 0, 6, 0, []), none, none, some (.bipush (8), 6, 8, 0, 0, []), none, some (.if_icmp .lt (5), 9, 0, 11, 0, []), none, none, some (.iconst (0), 10, 0, 0, 0, []), some (.ireturn, 11, 0, 0, 0, []), some (.aload_n 0, 12, 0, 0, 0, []), some (.getfield 19, 15, 0, 6, 2, []), none, none, some (.aload_n 0, 16, 0, 0, 0, []), some (.getfield 9, 19, 0, 6, 0, []), none, none, some (.iconst (0), 20, 0, 0, 0, []), some (.iastore, 21, 0, 0, 0, []), some (.aload_n 0, 22, 0, 0, 0, []), some (.getfield 15, 25, 0, 6, 1, []), none, none, some (.aload_n 0, 26, 0, 0, 0, []), some (.getfield 9, 29, 0, 6, 0, []), none, none, some (.iconst (2), 30, 2, 0, 0, []), some (.imul, 31, 0, 0, 0, []), some (.iconst (0), 32, 0, 0, 0, []), some (.iadd, 33, 0, 0, 0, []), some (.bipush (-9), 35, -9, 0, 0, []), none, some (.iastore, 36, 0, 0, 0, []), some (.aload_n 0, 37, 0, 0, 0, []), some (.getfield 15, 40, 0, 6, 1, []), none, none, some (.aload_n 0, 41, 0, 0, 0, []), some (.getfield 9, 44, 0, 6, 0, []), none, none, some (.iconst (2), 45, 2, 0, 0, []), some (.imul, 46, 0, 0, 0, []), some (.iconst (1), 47, 1, 0, 0, []), some (.iadd, 48, 0, 0, 0, []), some (.bipush (-9), 50, -9, 0, 0, []), none, some (.iastore, 51, 0, 0, 0, []), some (.iconst (1), 52, 1, 0, 0, []), some (.ireturn, 53, 0, 0, 0, [])]
-- LineOrigins$Revisions.addParent(I)Z
def cd_52 : List (Option En) := [some (.aload_n 0, 1, 0, 0, 0, []), some (.getfield 9, 4, 0, 6, 0, []), none, none, some (.bipush (8), 6, 8, 0, 0, []), none, some (.if_icmp .ge (11), 9, 0, 17, 0, []), none, none, some (.aload_n 0, 10, 0, 0, 0, []), some (.iload_n 1, 11, 0, 1, 0, []), some (.invokevirtual 25, 14, 0, 44, 3, []), none, none, some (.ifCond .ne (5), 17, 0, 19, 0, []), none, none, some (.iconst (0), 18, 0, 0, 0, []), some (.ireturn, 19, 0, 0, 0, []), some (.aload_n 0, 20, 0, 0, 0, []), some (.getfield 9, 23, 0, 6, 0, []), none, none, some (.iconst (2), 24, 2, 0, 0, []), some (.imul, 25, 0, 0, 0, []), some (.iconst (0), 26, 0, 0, 0, []), some (.iadd, 27, 0, 0, 0, []), some (.istore_n 2, 28, 0, 2, 0, []), some (.aload_n 0, 29, 0, 0, 0, []), some (.getfield 9, 32, 0, 6, 0, []), none, none, some (.iconst (2), 33, 2, 0, 0, []), some (.imul, 34, 0, 0, 0, []), some (.iconst (1), 35, 1, 0, 0, []), some (.iadd, 36, 0, 0, 0, []), some (.istore_n 3, 37, 0, 3, 0, []), some (.aload_n 0, 38, 0, 0, 0, []), some (.getfield 15, 41, 0, 6, 1, []), none, none, some (.iload_n 2, 42, 0, 2, 0, []), some (.iaload, 43, 0, 0, 0, []), some (.bipush (-9), 45, -9, 0, 0, []), none, some (.if_icmp .ne (12), 48, 0, 57, 0, []), none, none, some (.aload_n 0, 49, 0, 0, 0, []), some (.getfield 15, 52, 0, 6, 1, []), none, none, some (.iload_n 2, 53, 0, 2, 0, []), some (.iload_n 1, 54, 0, 1, 0, []), some (.iastore, 55, 0, 0, 0, []), some (.iconst (1), 56, 1, 0, 0, []), some (.ireturn, 57, 0, 0, 0, []), some (.aload_n 0, 58, 0, 0, 0, []), some (.getfield 15, 61, 0, 6, 1, []), none, none, some (.iload_n 3, 62, 0, 3, 0, []), some (.iaload, 63, 0, 0, 0, []), some (.bipush (-9), 65, -9, 0, 0, []), none, some (.if_icmp .ne (13), 68, 0, 78, 0, []), none, none, some (.aload_n 0, 69, 0, 0, 0, []), some (.getfield 15, 72, 0, 6, 1, []), none, none, some (.iload_n 2, 73, 0, 2, 0, []), some (.iaload, 74, 0, 0, 0, []), some (.iload_n 1, 75, 0, 1, 0, []), some (.if_icmp .ne (5), 78, 0, 80, 0, []), none, none, some (.iconst (0), 79, 0, 0, 0, []), some (.ireturn, 80, 0, 0, 0, []), some (.aload_n 0, 81, 0, 0, 0, []), some (.getfield 15, 84, 0, 6, 1, []), none, none, some (.iload_n 3, 85, 0, 3, 0, []), some (.iload_n 1, 86, 0, 1, 0, []), some (.iastore, 87, 0, 0, 0, []), some (.iconst (1), 88, 1, 0, 0, []), some (.ireturn, 89, 0, 0, 0, [])]
-- LineOrigins$Revisions.addLine(I)Z
def cd_53 : List (Option En) := [some (.aload_n 0, 1, 0, 0, 0, []), some (.getfield 9, 4, 0, 6, 0, []), none, none, some (.bipush (8), 6, 8, 0, 0, []), none, some (.if_icmp .ge (17), 9, 0, 23, 0, []), none, none, some (.aload_n 0, 10, 0, 0, 0, []), some (.getfield 19, 13, 0, 6, 2, []), none, none, some (.aload_n 0, 14, 0, 0, 0, []), some (.getfield 9, 17, 0, 6, 0, []), none, none, some (.iaload, 18, 0, 0, 0, []), some (.bipush (8), 20, 8, 0, 0, []), none, some (.if_icmp .lt (5), 23, 0, 25, 0, []), none, none, some (.iconst (0), 24, 0, 0, 0, []), some (.ireturn, 25, 0, 0, 0, []), some (.aload_n 0, 26, 0, 0, 0, []), some (.getfield 22, 29, 0, 6, 3, []), none, none, some (.aload_n 0, 30, 0, 0, 0, []), some (.getfield 9, 33, 0, 6, 0, []), none, none, some (.aload_n 0, 34, 0, 0, 0, []), some (.getfield 19, 37, 0, 6, 2, []), none, none, some (.aload_n 0, 38, 0, 0, 0, []), some (.getfield 9, 41, 0, 6, 0, []), none, none, some (.iaload, 42, 0, 0, 0, []), some (.invokestatic 33, 45, 0, 114, 5, []), none, none, some (.iload_n 1, 46, 0, 1, 0, []), some (.iastore, 47, 0, 0, 0, []), some (.aload_n 0, 48, 0, 0, 0, []), some (.getfield 19, 51, 0, 6, 2, []), none, none, some (.aload_n 0, 52, 0, 0, 0, []), some (.getfield 9, 55, 0, 6, 0, []), none, none, some (.dup2, 56, 0, 0, 0, []), some (.iaload, 57, 0, 0, 0, []), some (.iconst (1), 58, 1, 0, 0, []), some (.iadd, 59, 0, 0, 0, []), some (.iastore, 60, 0, 0, 0, []), some (.iconst (1), 61, 1, 0, 0, []), some (.ireturn, 62, 0, 0, 0, [])]
-- LineOrigins$Revisions.end()V
def cd_54 : List (Option En) := [some (.aload_n 0, 1, 0, 0, 0, []), some (.getfield 9, 4, 0, 6, 0, []), none, none, some (.bipush (8), 6, 8, 0, 0, []), none, some (.if_icmp .ge (13), 9, 0, 19, 0, []), none, none, some (.aload_n 0, 10, 0, 0, 0, []), some (.dup, 11, 0, 0, 0, []), some (.getfield 9, 14, 0, 6, 0, []), none, none, some (.iconst (1), 15, 1, 0, 0, []), some (.iadd, 16, 0, 0, 0, []), some (.putfield 9, 19, 0, 6, 0, []), none, none, some (.return_, 20, 0, 0, 0, [])]
-- LineOrigins$Revisions.copyFrom(LLineOrigins$Revisions;)V
def cd_55 : List (Option En) := [some (.aload_n 0, 1, 0, 0, 0, []), some (.aload_n 1, 2, 0, 1, 0, []), some (.getfield 9, 5, 0, 6, 0, []), none, none, some (.putfield 9, 8, 0, 6, 0, []), none, none, some (.aload_n 1, 9, 0, 1, 0, []), some (.getfield 15, 12, 0, 6, 1, []), none, none, some (.iconst (0), 13, 0, 0, 0, []), some (.aload_n 0, 14, 0, 0, 0, []), some (.getfield 15, 17, 0, 6, 1, []), none, none, some (.iconst (0), 18, 0, 0, 0, []), some (.bipush (16), 20, 16, 0, 0, []), none, some (.invokestatic 37, 23, 0, 0, 1, []), none, none, some (.aload_n 1, 24, 0, 1, 0, []), some (.getfield 19, 27, 0, 6, 2, []), none, none, some (.iconst (0), 28, 0, 0, 0, []), some (.aload_n 0, 29, 0, 0, 0, []), some (.getfield 19, 32, 0, 6, 2, []), none, none, some (.iconst (0), 33, 0, 0, 0, []), some (.bipush (8), 35, 8, 0, 0, []), none, some (.invokestatic 37, 38, 0, 0, 1, []), none, none, some (.aload_n 1, 39, 0, 1, 0, []), some (.getfield 22, 42, 0, 6, 3, []), none, none, some (.iconst (0), 43, 0, 0, 0, []), some (.aload_n 0, 44, 0, 0, 0, []), some (.getfield 22, 47, 0, 6, 3, []), none, none, some (.iconst (0), 48, 0, 0, 0, []), some (.bipush (64), 50, 64, 0, 0, []), none, some (.invokestatic 37, 53, 0, 0, 1, []), none, none, some (.return_, 54, 0, 0, 0, [])]
-- LineOrigins$Settings.<init>()V
def cd_56 : List (Option En) := [some (.aload_n 0, 1, 0, 0, 0, []), some (.invokespecial 3, 4, 0, 0, 2, []), none, none, some (.aload_n 0, 5, 0, 0, 0, []), some (.iconst (2), 6, 2, 0, 0, []), some (.putfield 9, 9, 0, 7, 0, []), none, none, some (.aload_n 0, 10, 0, 0, 0, []), some (.iconst (0), 11, 0, 0, 0, []), some (.putfield 15, 14, 0, 7, 1, []), none, none, some (.aload_n 0, 15, 0, 0, 0, []), some (.bipush (15), 17, 15, 0, 0, []), none, some (.putfield 18, 20, 0, 7, 2, []), none, none, some (.return_, 21, 0, 0, 0, [])]
-- LineOrigins$Settings.becomeAsAtFirst()V
def cd_57 : List (Option En) := [some (.aload_n 0, 1, 0, 0, 0, []), some (.iconst (2), 2, 2, 0, 0, []), some (.putfield 9, 5, 0, 7, 0, []), none, none, some (.aload_n 0, 6, 0, 0, 0, []), some (.iconst (0), 7, 0, 0, 0, []), some (.putfield 15, 10, 0, 7, 1, []), none, none, some (.aload_n 0, 11, 0, 0, 0, []), some (.bipush (15), 13, 15, 0, 0, []), none, some (.putfield 18, 16, 0, 7, 2, []), none, none, some (.return_, 17, 0, 0, 0, [])]
-- LineOrigins$Settings.code()I
def cd_58 : List (Option En) := [some (.aload_n 0, 1, 0, 0, 0, []), some (.getfield 15, 4, 0, 7, 1, []), none, none, some (.iconst (4), 5, 4, 0, 0, []), some (.ishl, 6, 0, 0, 0, []), some (.aload_n 0, 7, 0, 0, 0, []), some (.getfield 18, 10, 0, 7, 2, []), none, none, some (.ior, 11, 0, 0, 0, []), some (.iconst (3), 12, 3, 0, 0, []), some (.ishl, 13, 0, 0, 0, []), some (.aload_n 0, 14, 0, 0, 0, []), some (.getfield 9, 17, 0, 7, 0, []), none, none, some (.ior, 18, 0, 0, 0, []), some (.ireturn, 19, 0, 0, 0, [])]
-- LineOrigins$Settings.become(I)V
def cd_59 : List (Option En) := [some (.aload_n 0, 1, 0, 0, 0, []), some (.iload_n 1, 2, 0, 1, 0, []), some (.bipush (7), 4, 7, 0, 0, []), none, some (.iand, 5, 0, 0, 0, []), some (.putfield 9, 8, 0, 7, 0, []), none, none, some (.aload_n 0, 9, 0, 0, 0, []), some (.iload_n 1, 10, 0, 1, 0, []), some (.iconst (3), 11, 3, 0, 0, []), some (.ishr, 12, 0, 0, 0, []), some (.bipush (15), 14, 15, 0, 0, []), none, some (.iand, 15, 0, 0, 0, []), some (.putfield 18, 18, 0, 7, 2, []), none, none, some (.aload_n 0, 19, 0, 0, 0, []), some (.iload_n 1, 20, 0, 1, 0, []), some (.bipush (7), 22, 7, 0, 0, []), none, some (.ishr, 23, 0, 0, 0, []), some (.sipush (255), 26, 255, 0, 0, []), none, none, some (.iand, 27, 0, 0, 0, []), some (.putfield 15, 30, 0, 7, 1, []), none, none, some (.return_, 31, 0, 0, 0, [])]
-- LineOrigins$Settings.block()I
def cd_60 : List (Option En) := [some (.aload_n 0, 1, 0, 0, 0, []), some (.getfield 9, 4, 0, 7, 0, []), none, none, some (.ireturn, 5, 0, 0, 0, [])]
-- LineOrigins$Settings.setBlock(I)V
def cd_61 : List (Option En) := [some (.aload_n 0, 1, 0, 0, 0, []), some (.iload_n 1, 2, 0, 1, 0, []), some (.putfield 9, 5, 0, 7, 0, []), none, none, some (.return_, 6, 0, 0, 0, [])]
-- LineOrigins$Settings.isLongEnough(I)Z
def cd_62 : List (Option En) := [some (.aload_n 0, 1, 0, 0, 0, []), some (.getfield 9, 4, 0, 7, 0, []), none, none, some (.ifCond .le (15), 7, 0, 19, 0, []), none, none, some (.iload_n 1, 8, 0, 1, 0, []), some (.aload_n 0, 9, 0, 0, 0, []), some (.getfield 9, 12, 0, 7, 0, []), none, none, some (.if_icmp .lt (7), 15, 0, 19, 0, []), none, none, some (.iconst (1), 16, 1, 0, 0, []), some (.goto (4), 19, 0, 20, 0, []), none, none, some (.iconst (0), 20, 0, 0, 0, []), some (.ireturn, 21, 0, 0, 0, [])]
-- LineOrigins$Settings.passedBits()I
def cd_63 : List (Option En) := [some (.aload_n 0, 1, 0, 0, 0, []), some (.getfield 15, 4, 0, 7, 1, []), none, none, some (.ireturn, 5, 0, 0, 0, [])]
-- LineOrigins$Settings.isPassed(I)Z
def cd_64 : List (Option En) := [some (.aload_n 0, 1, 0, 0, 0, []), some (.getfield 15, 4, 0, 7, 1, []), none, none, some (.iload_n 1, 5, 0, 1, 0, []), some (.ishr, 6, 0, 0, 0, []), some (.iconst (1), 7, 1, 0, 0, []), some (.iand, 8, 0, 0, 0, []), some (.iconst (1), 9, 1, 0, 0, []), some (.if_icmp .ne (7), 12, 0, 16, 0, []), none, none, some (.iconst (1), 13, 1, 0, 0, []), some (.goto (4), 16, 0, 17, 0, []), none, none, some (.iconst (0), 17, 0, 0, 0, []), some (.ireturn, 18, 0, 0, 0, [])]
-- LineOrigins$Settings.turnPassed(I)V
def cd_65 : List (Option En) := [some (.aload_n 0, 1, 0, 0, 0, []), some (.dup, 2, 0, 0, 0, []), some (.getfield 15, 5, 0, 7, 1, []), none, none, some (.iconst (1), 6, 1, 0, 0, []), some (.iload_n 1, 7, 0, 1, 0, []), some (.ishl, 8, 0, 0, 0, []), some (.ixor, 9, 0, 0, 0, []), some (.putfield 15, 12, 0, 7, 1, []), none, none, some (.return_, 13, 0, 0, 0, [])]
-- LineOrigins$Settings.ruleBits()I
def cd_66 : List (Option En) := [some (.aload_n 0, 1, 0, 0, 0, []), some (.getfield 18, 4, 0, 7, 2, []), none, none, some (.ireturn, 5, 0, 0, 0, [])]
-- LineOrigins$Settings.isOn(I)Z
def cd_67 : List (Option En) := [some (.aload_n 0, 1, 0, 0, 0, []), some (.getfield 18, 4, 0, 7, 2, []), none, none, some (.iload_n 1, 5, 0, 1, 0, []), some (.ishr, 6, 0, 0, 0, []), some (.iconst (1), 7, 1, 0, 0, []), some (.iand, 8, 0, 0, 0, []), some (.iconst (1), 9, 1, 0, 0, []), some (.if_icmp .ne (7), 12, 0, 16, 0, []), none, none, some (.iconst (1), 13, 1, 0, 0, []), some (.goto (4), 16, 0, 17, 0, []), none, none, some (.iconst (0), 17, 0, 0, 0, []), some (.ireturn, 18, 0, 0, 0, [])]
-- LineOrigins$Settings.turnRule(I)V
def cd_68 : List (Option En) := [some (.aload_n 0, 1, 0, 0, 0, []), some (.dup, 2, 0, 0, 0, []), some (.getfield 18, 5, 0, 7, 2, []), none, none, some (.iconst (1), 6, 1, 0, 0, []), some (.iload_n 1, 7, 0, 1, 0, []), some (.ishl, 8, 0, 0, 0, []), some (.ixor, 9, 0, 0, 0, []), some (.putfield 18, 12, 0, 7, 2, []), none, none, some (.return_, 13, 0, 0, 0, [])]
-- LineOrigins$Sights.<init>()V
def cd_69 : List (Option En) := [some (.aload_n 0, 1, 0, 0, 0, []), some (.invokespecial 3, 4, 0, 0, 2, []), none, none, some (.aload_n 0, 5, 0, 0, 0, []), some (.bipush (6), 7, 6, 0, 0, []), none, some (.newarray .int, 9, 0, 0, 0, []), none, some (.putfield 9, 12, 0, 8, 0, []), none, none, some (.aload_n 0, 13, 0, 0, 0, []), some (.bipush (6), 15, 6, 0, 0, []), none, some (.newarray .int, 17, 0, 0, 0, []), none, some (.putfield 15, 20, 0, 8, 1, []), none, none, some (.aload_n 0, 21, 0, 0, 0, []), some (.bipush (6), 23, 6, 0, 0, []), none, some (.newarray .boolean, 25, 0, 1, 0, []), none, some (.putfield 18, 28, 0, 8, 2, []), none, none, some (.aload_n 0, 29, 0, 0, 0, []), some (.iconst (0), 30, 0, 0, 0, []), some (.putfield 22, 33, 0, 8, 3, []), none, none, some (.return_, 34, 0, 0, 0, [])]
-- LineOrigins$Sights.size()I
def cd_70 : List (Option En) := [some (.aload_n 0, 1, 0, 0, 0, []), some (.getfield 22, 4, 0, 8, 3, []), none, none, some (.ireturn, 5, 0, 0, 0, [])]
-- LineOrigins$Sights.becomeEmpty()V
def cd_71 : List (Option En) := [some (.aload_n 0, 1, 0, 0, 0, []), some (.iconst (0), 2, 0, 0, 0, []), some (.putfield 22, 5, 0, 8, 3, []), none, none, some (.return_, 6, 0, 0, 0, [])]
-- LineOrigins$Sights.add(IIZ)V
def cd_72 : List (Option En) := [some (.aload_n 0, 1, 0, 0, 0, []), some (.getfield 22, 4, 0, 8, 3, []), none, none, some (.bipush (6), 6, 6, 0, 0, []), none, some (.if_icmp .ge (43), 9, 0, 49, 0, []), none, none, some (.aload_n 0, 10, 0, 0, 0, []), some (.getfield 9, 13, 0, 8, 0, []), none, none, some (.aload_n 0, 14, 0, 0, 0, []), some (.getfield 22, 17, 0, 8, 3, []), none, none, some (.iload_n 1, 18, 0, 1, 0, []), some (.iastore, 19, 0, 0, 0, []), some (.aload_n 0, 20, 0, 0, 0, []), some (.getfield 15, 23, 0, 8, 1, []), none, none, some (.aload_n 0, 24, 0, 0, 0, []), some (.getfield 22, 27, 0, 8, 3, []), none, none, some (.iload_n 2, 28, 0, 2, 0, []), some (.iastore, 29, 0, 0, 0, []), some (.aload_n 0, 30, 0, 0, 0, []), some (.getfield 18, 33, 0, 8, 2, []), none, none, some (.aload_n 0, 34, 0, 0, 0, []), some (.getfield 22, 37, 0, 8, 3, []), none, none, some (.iload_n 3, 38, 0, 3, 0, []), some (.bastore, 39, 0, 0, 0, []), some (.aload_n 0, 40, 0, 0, 0, []), some (.dup, 41, 0, 0, 0, []), some (.getfield 22, 44, 0, 8, 3, []), none, none, some (.iconst (1), 45, 1, 0, 0, []), some (.iadd, 46, 0, 0, 0, []), some (.putfield 22, 49, 0, 8, 3, []), none, none, some (.return_, 50, 0, 0, 0, [])]
-- LineOrigins$Sights.areAllSo(LLineOrigins$Traces;)Z
def cd_73 : List (Option En) := [some (.iconst (0), 1, 0, 0, 0, []), some (.istore_n 2, 2, 0, 2, 0, []), some (.iload_n 2, 3, 0, 2, 0, []), some (.aload_n 0, 4, 0, 0, 0, []), some (.getfield 22, 7, 0, 8, 3, []), none, none, some (.if_icmp .ge (67), 10, 0, 74, 0, []), none, none, some (.iload_n 2, 11, 0, 2, 0, []), some (.bipush (6), 13, 6, 0, 0, []), none, some (.if_icmp .ge (61), 16, 0, 74, 0, []), none, none, some (.aload_n 1, 17, 0, 1, 0, []), some (.aload_n 0, 18, 0, 0, 0, []), some (.getfield 9, 21, 0, 8, 0, []), none, none, some (.iload_n 2, 22, 0, 2, 0, []), some (.iaload, 23, 0, 0, 0, []), some (.bipush (8), 25, 8, 0, 0, []), none, some (.idiv, 26, 0, 0, 0, []), some (.aload_n 0, 27, 0, 0, 0, []), some (.getfield 9, 30, 0, 8, 0, []), none, none, some (.iload_n 2, 31, 0, 2, 0, []), some (.iaload, 32, 0, 0, 0, []), some (.bipush (8), 34, 8, 0, 0, []), none, some (.irem, 35, 0, 0, 0, []), some (.invokevirtual 26, 38, 0, 82, 3, []), none, none, some (.istore_n 3, 39, 0, 3, 0, []), some (.iload_n 3, 40, 0, 3, 0, []), some (.bipush (8), 42, 8, 0, 0, []), none, some (.idiv, 43, 0, 0, 0, []), some (.aload_n 0, 44, 0, 0, 0, []), some (.getfield 15, 47, 0, 8, 1, []), none, none, some (.iload_n 2, 48, 0, 2, 0, []), some (.iaload, 49, 0, 0, 0, []), some (.if_icmp .ne (7), 52, 0, 56, 0, []), none, none, some (.iconst (1), 53, 1, 0, 0, []), some (.goto (4), 56, 0, 57, 0, []), none, none, some (.iconst (0), 57, 0, 0, 0, []), some (.aload_n 0, 58, 0, 0, 0, []), some (.getfield 18, 61, 0, 8, 2, []), none, none, some (.iload_n 2, 62, 0, 2, 0, []), some (.baload, 63, 0, 0, 0, []), some (.if_icmp .eq (5), 66, 0, 68, 0, []), none, none, some (.iconst (0), 67, 0, 0, 0, []), some (.ireturn, 68, 0, 0, 0, []), some (.iinc 2 (1), 71, 1, 2, 0, []), none, none, some (.goto (-69), 74, 0, 2, 0, []), none, none, some (.iconst (1), 75, 1, 0, 0, []), some (.ireturn, 76, 0, 0, 0, [])]
-- LineOrigins$Text.<init>()V
def cd_74 : List (Option En) := [some (.aload_n 0, 1, 0, 0, 0, []), some (.invokespecial 3, 4, 0, 0, 2, []), none, none, some (.aload_n 0, 5, 0, 0, 0, []), some (.bipush (120), 7, 120, 0, 0, []), none, some (.newarray .int, 9, 0, 0, 0, []), none, some (.putfield 9, 12, 0, 9, 0, []), none, none, some (.aload_n 0, 13, 0, 0, 0, []), some (.iconst (0), 14, 0, 0, 0, []), some (.putfield 15, 17, 0, 9, 1, []), none, none, some (.return_, 18, 0, 0, 0, [])]
-- LineOrigins$Text.size()I
def cd_75 : List (Option En) := [some (.aload_n 0, 1, 0, 0, 0, []), some (.getfield 15, 4, 0, 9, 1, []), none, none, some (.ireturn, 5, 0, 0, 0, [])]
-- LineOrigins$Text.add(I)V
def cd_76 : List (Option En) := [some (.aload_n 0, 1, 0, 0, 0, []), some (.getfield 15, 4, 0, 9, 1, []), none, none, some (.bipush (120), 6, 120, 0, 0, []), none, some (.if_icmp .ge (23), 9, 0, 29, 0, []), none, none, some (.aload_n 0, 10, 0, 0, 0, []), some (.getfield 9, 13, 0, 9, 0, []), none, none, some (.aload_n 0, 14, 0, 0, 0, []), some (.getfield 15, 17, 0, 9, 1, []), none, none, some (.iload_n 1, 18, 0, 1, 0, []), some (.iastore, 19, 0, 0, 0, []), some (.aload_n 0, 20, 0, 0, 0, []), some (.dup, 21, 0, 0, 0, []), some (.getfield 15, 24, 0, 9, 1, []), none, none, some (.iconst (1), 25, 1, 0, 0, []), some (.iadd, 26, 0, 0, 0, []), some (.putfield 15, 29, 0, 9, 1, []), none, none, some (.return_, 30, 0, 0, 0, [])]
-- LineOrigins$Text.becomeEmpty()V
def cd_77 : List (Option En) := [some (.aload_n 0, 1, 0, 0, 0, []), some (.iconst (0), 2, 0, 0, 0, []), some (.putfield 15, 5, 0, 9, 1, []), none, none, some (.return_, 6, 0, 0, 0, [])]
-- LineOrigins$Text.at(I)I
def cd_78 : List (Option En) := [some (.iload_n 1, 1, 0, 1, 0, []), some (.ifCond .lt (20), 4, 0, 21, 0, []), none, none, some (.iload_n 1, 5, 0, 1, 0, []), some (.aload_n 0, 6, 0, 0, 0, []), some (.getfield 15, 9, 0, 9, 1, []), none, none, some (.if_icmp .ge (12), 12, 0, 21, 0, []), none, none, some (.aload_n 0, 13, 0, 0, 0, []), some (.getfield 9, 16, 0, 9, 0, []), none, none, some (.iload_n 1, 17, 0, 1, 0, []), some (.iaload, 18, 0, 0, 0, []), some (.goto (5), 21, 0, 23, 0, []), none, none, some (.bipush (-9), 23, -9, 0, 0, []), none, some (.ireturn, 24, 0, 0, 0, [])]
-- LineOrigins$Text.isDigit(I)Z
def cd_79 : List (Option En) := [some (.aload_n 0, 1, 0, 0, 0, []), some (.iload_n 1, 2, 0, 1, 0, []), some (.invokevirtual 19, 5, 0, 78, 3, []), none, none, some (.istore_n 2, 6, 0, 2, 0, []), some (.iload_n 2, 7, 0, 2, 0, []), some (.bipush (48), 9, 48, 0, 0, []), none, some (.if_icmp .lt (13), 12, 0, 22, 0, []), none, none, some (.iload_n 2, 13, 0, 2, 0, []), some (.bipush (57), 15, 57, 0, 0, []), none, some (.if_icmp .gt (7), 18, 0, 22, 0, []), none, none, some (.iconst (1), 19, 1, 0, 0, []), some (.goto (4), 22, 0, 23, 0, []), none, none, some (.iconst (0), 23, 0, 0, 0, []), some (.ireturn, 24, 0, 0, 0, [])]
-- LineOrigins$Text.numberAt(I)I
def cd_80 : List (Option En) := [some (.aload_n 0, 1, 0, 0, 0, []), some (.iload_n 1, 2, 0, 1, 0, []), some (.invokevirtual 23, 5, 0, 79, 3, []), none, none, some (.ifCond .ne (6), 8, 0, 11, 0, []), none, none, some (.bipush (-9), 10, -9, 0, 0, []), none, some (.ireturn, 11, 0, 0, 0, []), some (.aload_n 0, 12, 0, 0, 0, []), some (.iload_n 1, 13, 0, 1, 0, []), some (.invokevirtual 19, 16, 0, 78, 3, []), none, none, some (.bipush (48), 18, 48, 0, 0, []), none, some (.isub, 19, 0, 0, 0, []), some (.istore_n 2, 20, 0, 2, 0, []), some (.aload_n 0, 21, 0, 0, 0, []), some (.iload_n 1, 22, 0, 1, 0, []), some (.iconst (1), 23, 1, 0, 0, []), some (.iadd, 24, 0, 0, 0, []), some (.invokevirtual 23, 27, 0, 79, 3, []), none, none, some (.ifCond .ne (5), 30, 0, 32, 0, []), none, none, some (.iload_n 2, 31, 0, 2, 0, []), some (.ireturn, 32, 0, 0, 0, []), some (.iload_n 2, 33, 0, 2, 0, []), some (.ifCond .eq (13), 36, 0, 46, 0, []), none, none, some (.aload_n 0, 37, 0, 0, 0, []), some (.iload_n 1, 38, 0, 1, 0, []), some (.iconst (2), 39, 2, 0, 0, []), some (.iadd, 40, 0, 0, 0, []), some (.invokevirtual 23, 43, 0, 79, 3, []), none, none, some (.ifCond .eq (6), 46, 0, 49, 0, []), none, none, some (.bipush (-9), 48, -9, 0, 0, []), none, some (.ireturn, 49, 0, 0, 0, []), some (.iload_n 2, 50, 0, 2, 0, []), some (.bipush (10), 52, 10, 0, 0, []), none, some (.imul, 53, 0, 0, 0, []), some (.aload_n 0, 54, 0, 0, 0, []), some (.iload_n 1, 55, 0, 1, 0, []), some (.iconst (1), 56, 1, 0, 0, []), some (.iadd, 57, 0, 0, 0, []), some (.invokevirtual 19, 60, 0, 78, 3, []), none, none, some (.iadd, 61, 0, 0, 0, []), some (.bipush (48), 63, 48, 0, 0, []), none, some (.isub, 64, 0, 0, 0, []), some (.ireturn, 65, 0, 0, 0, [])]
-- LineOrigins$Traces.<init>()V
def cd_81 : List (Option En) := [some (.aload_n 0, 1, 0, 0, 0, []), some (.invokespecial 3, 4, 0, 0, 2, []), none, none, some (.aload_n 0, 5, 0, 0, 0, []), some (.bipush (64), 7, 64, 0, 0, []), none, some (.newarray .int, 9, 0, 0, 0, []), none, some (.putfield 9, 12, 0, 10, 0, []), none, none, some (.aload_n 0, 13, 0, 0, 0, []), some (.bipush (64), 15, 64, 0, 0, []), none, some (.newarray .int, 17, 0, 0, 0, []), none, some (.putfield 15, 20, 0, 10, 1, []), none, none, some (.aload_n 0, 21, 0, 0, 0, []), some (.bipush (64), 23, 64, 0, 0, []), none, some (.newarray .int, 25, 0, 0, 0, []), none, some (.putfield 18, 28, 0, 10, 2, []), none, none, some (.return_, 29, 0, 0, 0, [])]
-- LineOrigins$Traces.origin(II)I
def cd_82 : List (Option En) := [some (.iload_n 1, 1, 0, 1, 0, []), some (.iload_n 2, 2, 0, 2, 0, []), some (.invokestatic 21, 5, 0, 115, 5, []), none, none, some (.ifCond .eq (16), 8, 0, 21, 0, []), none, none, some (.aload_n 0, 9, 0, 0, 0, []), some (.getfield 9, 12, 0, 10, 0, []), none, none, some (.iload_n 1, 13, 0, 1, 0, []), some (.iload_n 2, 14, 0, 2, 0, []), some (.invokestatic 25, 17, 0, 114, 5, []), none, none, some (.iaload, 18, 0, 0, 0, []), some (.goto (5), 21, 0, 23, 0, []), none, none, some (.bipush (-9), 23, -9, 0, 0, []), none, some (.ireturn, 24, 0, 0, 0, [])]
-- LineOrigins$Traces.steps(II)I
def cd_83 : List (Option En) := [some (.iload_n 1, 1, 0, 1, 0, []), some (.iload_n 2, 2, 0, 2, 0, []), some (.invokestatic 21, 5, 0, 115, 5, []), none, none, some (.ifCond .eq (16), 8, 0, 21, 0, []), none, none, some (.aload_n 0, 9, 0, 0, 0, []), some (.getfield 15, 12, 0, 10, 1, []), none, none, some (.iload_n 1, 13, 0, 1, 0, []), some (.iload_n 2, 14, 0, 2, 0, []), some (.invokestatic 25, 17, 0, 114, 5, []), none, none, some (.iaload, 18, 0, 0, 0, []), some (.goto (4), 21, 0, 22, 0, []), none, none, some (.iconst (0), 22, 0, 0, 0, []), some (.ireturn, 23, 0, 0, 0, [])]
-- LineOrigins$Traces.rule(II)I
def cd_84 : List (Option En) := [some (.iload_n 1, 1, 0, 1, 0, []), some (.iload_n 2, 2, 0, 2, 0, []), some (.invokestatic 21, 5, 0, 115, 5, []), none, none, some (.ifCond .eq (16), 8, 0, 21, 0, []), none, none, some (.aload_n 0, 9, 0, 0, 0, []), some (.getfield 18, 12, 0, 10, 2, []), none, none, some (.iload_n 1, 13, 0, 1, 0, []), some (.iload_n 2, 14, 0, 2, 0, []), some (.invokestatic 25, 17, 0, 114, 5, []), none, none, some (.iaload, 18, 0, 0, 0, []), some (.goto (5), 21, 0, 23, 0, []), none, none, some (.bipush (-9), 23, -9, 0, 0, []), none, some (.ireturn, 24, 0, 0, 0, [])]
-- LineOrigins$Traces.follow(LLineOrigins$Revisions;LLineOrigins$Parentage;LLineOrigins$Settings;)V
def cd_85 : List (Option En) := [some (.iconst (0), 1, 0, 0, 0, []), some (.istore 4, 3, 0, 4, 0, []), none, some (.iload 4, 5, 0, 4, 0, []), none, some (.aload_n 1, 6, 0, 1, 0, []), some (.invokevirtual 29, 9, 0, 43, 3, []), none, none, some (.if_icmp .ge (49), 12, 0, 58, 0, []), none, none, some (.iconst (0), 13, 0, 0, 0, []), some (.istore 5, 15, 0, 5, 0, []), none, some (.iload 5, 17, 0, 5, 0, []), none, some (.aload_n 1, 18, 0, 1, 0, []), some (.iload 4, 20, 0, 4, 0, []), none, some (.invokevirtual 35, 23, 0, 46, 3, []), none, none, some (.if_icmp .ge (29), 26, 0, 52, 0, []), none, none, some (.iload 4, 28, 0, 4, 0, []), none, some (.iload 5, 30, 0, 5, 0, []), none, some (.invokestatic 21, 33, 0, 115, 5, []), none, none, some (.ifCond .eq (13), 36, 0, 46, 0, []), none, none, some (.aload_n 0, 37, 0, 0, 0, []), some (.aload_n 2, 38, 0, 2, 0, []), some (.aload_n 3, 39, 0, 3, 0, []), some (.iload 4, 41, 0, 4, 0, []), none, some (.iload 5, 43, 0, 5, 0, []), none, some (.invokevirtual 39, 46, 0, 86, 3, []), none, none, some (.iinc 5 (1), 49, 1, 5, 0, []), none, none, some (.goto (-34), 52, 0, 15, 0, []), none, none, some (.iinc 4 (1), 55, 1, 4, 0, []), none, none, some (.goto (-52), 58, 0, 3, 0, []), none, none, some (.return_, 59, 0, 0, 0, [])]
-- LineOrigins$Traces.followOne(LLineOrigins$Parentage;LLineOrigins$Settings;II)V
def cd_86 : List (Option En) := [some (.iload_n 3, 1, 0, 3, 0, []), some (.iload 4, 3, 0, 4, 0, []), none, some (.invokestatic 25, 6, 0, 114, 5, []), none, none, some (.istore 5, 8, 0, 5, 0, []), none, some (.aload_n 0, 9, 0, 0, 0, []), some (.getfield 9, 12, 0, 10, 0, []), none, none, some (.iload 5, 14, 0, 5, 0, []), none, some (.iload 5, 16, 0, 5, 0, []), none, some (.iastore, 17, 0, 0, 0, []), some (.aload_n 0, 18, 0, 0, 0, []), some (.getfield 15, 21, 0, 10, 1, []), none, none, some (.iload 5, 23, 0, 5, 0, []), none, some (.iconst (0), 24, 0, 0, 0, []), some (.iastore, 25, 0, 0, 0, []), some (.aload_n 0, 26, 0, 0, 0, []), some (.getfield 18, 29, 0, 10, 2, []), none, none, some (.iload 5, 31, 0, 5, 0, []), none, some (.bipush (-9), 33, -9, 0, 0, []), none, some (.iastore, 34, 0, 0, 0, []), some (.iconst (0), 35, 0, 0, 0, []), some (.istore 6, 37, 0, 6, 0, []), none, some (.iload 6, 39, 0, 6, 0, []), none, some (.iconst (4), 40, 4, 0, 0, []), some (.if_icmp .ge (87), 43, 0, 127, 0, []), none, none, some (.aload_n 2, 44, 0, 2, 0, []), some (.iload 6, 46, 0, 6, 0, []), none, some (.invokevirtual 43, 49, 0, 67, 3, []), none, none, some (.ifCond .eq (16), 52, 0, 65, 0, []), none, none, some (.aload_n 1, 53, 0, 1, 0, []), some (.iload 6, 55, 0, 6, 0, []), none, some (.iload_n 3, 56, 0, 3, 0, []), some (.iload 4, 58, 0, 4, 0, []), none, some (.aload_n 2, 59, 0, 2, 0, []), some (.invokevirtual 49, 62, 0, 33, 3, []), none, none, some (.goto (5), 65, 0, 67, 0, []), none, none, some (.bipush (-9), 67, -9, 0, 0, []), none, some (.istore 7, 69, 0, 7, 0, []), none, some (.iload 7, 71, 0, 7, 0, []), none, some (.ifCond .lt (50), 74, 0, 121, 0, []), none, none, some (.iload 7, 76, 0, 7, 0, []), none, some (.bipush (64), 78, 64, 0, 0, []), none, some (.if_icmp .ge (43), 81, 0, 121, 0, []), none, none, some (.aload_n 0, 82, 0, 0, 0, []), some (.getfield 9, 85, 0, 10, 0, []), none, none, some (.iload 5, 87, 0, 5, 0, []), none, some (.aload_n 0, 88, 0, 0, 0, []), some (.getfield 9, 91, 0, 10, 0, []), none, none, some (.iload 7, 93, 0, 7, 0, []), none, some (.iaload, 94, 0, 0, 0, []), some (.iastore, 95, 0, 0, 0, []), some (.aload_n 0, 96, 0, 0, 0, []), some (.getfield 15, 99, 0, 10, 1, []), none, none, some (.iload 5, 101, 0, 5, 0, []), none, some (.aload_n 0, 102, 0, 0, 0, []), some (.getfield 15, 105, 0, 10, 1, []), none, none, some (.iload 7, 107, 0, 7, 0, []), none, some (.iaload, 108, 0, 0, 0, []), some (.iconst (1), 109, 1, 0, 0, []), some (.iadd, 110, 0, 0, 0, []), some (.iastore, 111, 0, 0, 0, []), some (.aload_n 0, 112, 0, 0, 0, []), some (.getfield 18, 115, 0, 10, 2, []), none, none, some (.iload 5, 117, 0, 5, 0, []), none, some (.iload 6, 119, 0, 6, 0, []), none, some (.iastore, 120, 0, 0, 0, []), some (.return_, 121, 0, 0, 0, []), some (.iinc 6 (1), 124, 1, 6, 0, []), none, none, some (.goto (-87), 127, 0, 37, 0, []), none, none, some (.return_, 128, 0, 0, 0, [])]
-- LineOrigins.<init>()V
def cd_87 : List (Option En) := [some (.aload_n 0, 1, 0, 0, 0, []), some (.invokespecial 3, 4, 0, 0, 2, []), none, none, some (.aload_n 0, 5, 0, 0, 0, []), some (.new 9, 8, 0, 9, 0, []), none, none, some (.dup, 9, 0, 0, 0, []), some (.invokespecial 11, 12, 0, 74, 7, []), none, none, some (.putfield 12, 15, 0, 11, 0, []), none, none, some (.aload_n 0, 16, 0, 0, 0, []), some (.new 16, 19, 0, 5, 0, []), none, none, some (.dup, 20, 0, 0, 0, []), some (.invokespecial 18, 23, 0, 35, 7, []), none, none, some (.putfield 19, 26, 0, 11, 1, []), none, none, some (.aload_n 0, 27, 0, 0, 0, []), some (.new 23, 30, 0, 6, 0, []), none, none, some (.dup, 31, 0, 0, 0, []), some (.invokespecial 25, 34, 0, 42, 7, []), none, none, some (.putfield 26, 37, 0, 11, 2, []), none, none, some (.aload_n 0, 38, 0, 0, 0, []), some (.new 23, 41, 0, 6, 0, []), none, none, some (.dup, 42, 0, 0, 0, []), some (.invokespecial 25, 45, 0, 42, 7, []), none, none, some (.putfield 30, 48, 0, 11, 3, []), none, none, some (.aload_n 0, 49, 0, 0, 0, []), some (.new 33, 52, 0, 4, 0, []), none, none, some (.dup, 53, 0, 0, 0, []), some (.invokespecial 35, 56, 0, 29, 7, []), none, none, some (.putfield 36, 59, 0, 11, 4, []), none, none, some (.aload_n 0, 60, 0, 0, 0, []), some (.new 40, 63, 0, 7, 0, []), none, none, some (.dup, 64, 0, 0, 0, []), some (.invokespecial 42, 67, 0, 56, 7, []), none, none, some (.putfield 43, 70, 0, 11, 5, []), none, none, some (.aload_n 0, 71, 0, 0, 0, []), some (.new 40, 74, 0, 7, 0, []), none, none, some (.dup, 75, 0, 0, 0, []), some (.invokespecial 42, 78, 0, 56, 7, []), none, none, some (.putfield 47, 81, 0, 11, 6, []), none, none, some (.aload_n 0, 82, 0, 0, 0, []), some (.new 50, 85, 0, 10, 0, []), none, none, some (.dup, 86, 0, 0, 0, []), some (.invokespecial 52, 89, 0, 81, 7, []), none, none, some (.putfield 53, 92, 0, 11, 7, []), none, none, some (.aload_n 0, 93, 0, 0, 0, []), some (.new 50, 96, 0, 10, 0, []), none, none, some (.dup, 97, 0, 0, 0, []), some (.invokespecial 52, 100, 0, 81, 7, []), none, none, some (.putfield 57, 103, 0, 11, 8, []), none, none, some (.aload_n 0, 104, 0, 0, 0, []), some (.new 60, 107, 0, 0, 0, []), none, none, some (.dup, 108, 0, 0, 0, []), some (.invokespecial 62, 111, 0, 0, 7, []), none, none, some (.putfield 63, 114, 0, 11, 9, []), none, none, some (.aload_n 0, 115, 0, 0, 0, []), some (.new 67, 118, 0, 8, 0, []), none, none, some (.dup, 119, 0, 0, 0, []), some (.invokespecial 69, 122, 0, 69, 7, []), none, none, some (.putfield 70, 125, 0, 11, 10, []), none, none, some (.aload_n 0, 126, 0, 0, 0, []), some (.iconst (2), 127, 2, 0, 0, []), some (.newarray .int, 129, 0, 0, 0, []), none, some (.dup, 130, 0, 0, 0, []), some (.iconst (0), 131, 0, 0, 0, []), some (.bipush (-9), 133, -9, 0, 0, []), none, some (.iastore, 134, 0, 0, 0, []), some (.dup, 135, 0, 0, 0, []), some (.iconst (1), 136, 1, 0, 0, []), some (.bipush (-9), 138, -9, 0, 0, []), none, some (.iastore, 139, 0, 0, 0, []), some (.putfield 74, 142, 0, 11, 11, []), none, none, some (.return_, 143, 0, 0, 0, [])]
-- LineOrigins.type(I)I
def cd_88 : List (Option En) := [some (.iload_n 1, 1, 0, 1, 0, []), some (.ifCond .lt (10), 4, 0, 11, 0, []), none, none, some (.iload_n 1, 5, 0, 1, 0, []), some (.sipush (255), 8, 255, 0, 0, []), none, none, some (.if_icmp .le (5), 11, 0, 13, 0, []), none, none, some (.iconst (-1), 12, -1, 0, 0, []), some (.ireturn, 13, 0, 0, 0, []), some (.aload_n 0, 14, 0, 0, 0, []), some (.getfield 12, 17, 0, 11, 0, []), none, none, some (.invokevirtual 78, 20, 0, 75, 3, []), none, none, some (.bipush (120), 22, 120, 0, 0, []), none, some (.if_icmp .lt (6), 25, 0, 28, 0, []), none, none, some (.bipush (-3), 27, -3, 0, 0, []), none, some (.ireturn, 28, 0, 0, 0, []), some (.aload_n 0, 29, 0, 0, 0, []), some (.getfield 12, 32, 0, 11, 0, []), none, none, some (.iload_n 1, 33, 0, 1, 0, []), some (.invokevirtual 82, 36, 0, 76, 3, []), none, none, some (.aload_n 0, 37, 0, 0, 0, []), some (.getfield 12, 40, 0, 11, 0, []), none, none, some (.invokevirtual 78, 43, 0, 75, 3, []), none, none, some (.ireturn, 44, 0, 0, 0, [])]
-- LineOrigins.clear()I
def cd_89 : List (Option En) := [some (.aload_n 0, 1, 0, 0, 0, []), some (.getfield 12, 4, 0, 11, 0, []), none, none, some (.invokevirtual 78, 7, 0, 75, 3, []), none, none, some (.istore_n 1, 8, 0, 1, 0, []), some (.aload_n 0, 9, 0, 0, 0, []), some (.getfield 12, 12, 0, 11, 0, []), none, none, some (.invokevirtual 86, 15, 0, 77, 3, []), none, none, some (.iload_n 1, 16, 0, 1, 0, []), some (.ireturn, 17, 0, 0, 0, [])]
-- LineOrigins.history()I
def cd_90 : List (Option En) := [some (.aload_n 0, 1, 0, 0, 0, []), some (.getfield 19, 4, 0, 11, 1, []), none, none, some (.aload_n 0, 5, 0, 0, 0, []), some (.getfield 12, 8, 0, 11, 0, []), none, none, some (.aload_n 0, 9, 0, 0, 0, []), some (.getfield 26, 12, 0, 11, 2, []), none, none, some (.invokevirtual 89, 15, 0, 36, 3, []), none, none, some (.istore_n 1, 16, 0, 1, 0, []), some (.iload_n 1, 17, 0, 1, 0, []), some (.iconst (-1), 18, -1, 0, 0, []), some (.if_icmp .eq (8), 21, 0, 26, 0, []), none, none, some (.bipush (-10), 23, -10, 0, 0, []), none, some (.iload_n 1, 24, 0, 1, 0, []), some (.isub, 25, 0, 0, 0, []), some (.ireturn, 26, 0, 0, 0, []), some (.aload_n 0, 27, 0, 0, 0, []), some (.getfield 30, 30, 0, 11, 3, []), none, none, some (.aload_n 0, 31, 0, 0, 0, []), some (.getfield 26, 34, 0, 11, 2, []), none, none, some (.invokevirtual 93, 37, 0, 55, 3, []), none, none, some (.aload_n 0, 38, 0, 0, 0, []), some (.getfield 36, 41, 0, 11, 4, []), none, none, some (.aload_n 0, 42, 0, 0, 0, []), some (.getfield 30, 45, 0, 11, 3, []), none, none, some (.invokevirtual 97, 48, 0, 30, 3, []), none, none, some (.aload_n 0, 49, 0, 0, 0, []), some (.getfield 12, 52, 0, 11, 0, []), none, none, some (.invokevirtual 86, 55, 0, 77, 3, []), none, none, some (.aload_n 0, 56, 0, 0, 0, []), some (.getfield 43, 59, 0, 11, 5, []), none, none, some (.invokevirtual 100, 62, 0, 57, 3, []), none, none, some (.aload_n 0, 63, 0, 0, 0, []), some (.getfield 63, 66, 0, 11, 9, []), none, none, some (.invokevirtual 103, 69, 0, 2, 3, []), none, none, some (.aload_n 0, 70, 0, 0, 0, []), some (.getfield 70, 73, 0, 11, 10, []), none, none, some (.invokevirtual 104, 76, 0, 71, 3, []), none, none, some (.iconst (0), 77, 0, 0, 0, []), some (.istore_n 2, 78, 0, 2, 0, []), some (.iload_n 2, 79, 0, 2, 0, []), some (.iconst (2), 80, 2, 0, 0, []), some (.if_icmp .ge (17), 83, 0, 97, 0, []), none, none, some (.aload_n 0, 84, 0, 0, 0, []), some (.getfield 74, 87, 0, 11, 11, []), none, none, some (.iload_n 2, 88, 0, 2, 0, []), some (.bipush (-9), 90, -9, 0, 0, []), none, some (.iastore, 91, 0, 0, 0, []), some (.iinc 2 (1), 94, 1, 2, 0, []), none, none, some (.goto (-16), 97, 0, 78, 0, []), none, none, some (.aload_n 0, 98, 0, 0, 0, []), some (.invokevirtual 105, 101, 0, 110, 3, []), none, none, some (.aload_n 0, 102, 0, 0, 0, []), some (.getfield 30, 105, 0, 11, 3, []), none, none, some (.invokevirtual 108, 108, 0, 43, 3, []), none, none, some (.ireturn, 109, 0, 0, 0, [])]
-- LineOrigins.revision(II)I
def cd_91 : List (Option En) := [some (.aload_n 0, 1, 0, 0, 0, []), some (.getfield 30, 4, 0, 11, 3, []), none, none, some (.iload_n 1, 5, 0, 1, 0, []), some (.invokevirtual 111, 8, 0, 44, 3, []), none, none, some (.ifCond .ne (5), 11, 0, 13, 0, []), none, none, some (.iconst (-1), 12, -1, 0, 0, []), some (.ireturn, 13, 0, 0, 0, []), some (.iload_n 2, 14, 0, 2, 0, []), some (.tableswitch (76) (0) (3) #[30, 39, 49, 59], 44, 0, 0, 0, [90, 44, 53, 63, 73]), none, none, none, none, none, none, none, none, none, none, none, none, none, none, none, none, none, none, none, none, none, none, none, none, none, none, none, none, none, some (.aload_n 0, 45, 0, 0, 0, []), some (.getfield 30, 48, 0, 11, 3, []), none, none, some (.iload_n 1, 49, 0, 1, 0, []), some (.invokevirtual 115, 52, 0, 46, 3, []), none, none, some (.ireturn, 53, 0, 0, 0, []), some (.aload_n 0, 54, 0, 0, 0, []), some (.getfield 30, 57, 0, 11, 3, []), none, none, some (.iload_n 1, 58, 0, 1, 0, []), some (.iconst (0), 59, 0, 0, 0, []), some (.invokevirtual 118, 62, 0, 47, 3, []), none, none, some (.ireturn, 63, 0, 0, 0, []), some (.aload_n 0, 64, 0, 0, 0, []), some (.getfield 30, 67, 0, 11, 3, []), none, none, some (.iload_n 1, 68, 0, 1, 0, []), some (.iconst (1), 69, 1, 0, 0, []), some (.invokevirtual 118, 72, 0, 47, 3, []), none, none, some (.ireturn, 73, 0, 0, 0, []), some (.aload_n 0, 74, 0, 0, 0, []), some (.getfield 43, 77, 0, 11, 5, []), none, none, some (.iload_n 1, 78, 0, 1, 0, []), some (.invokevirtual 122, 81, 0, 64, 3, []), none, none, some (.ifCond .eq (7), 84, 0, 88, 0, []), none, none, some (.iconst (1), 85, 1, 0, 0, []), some (.goto (4), 88, 0, 89, 0, []), none, none, some (.iconst (0), 89, 0, 0, 0, []), some (.ireturn, 90, 0, 0, 0, []), some (.iconst (-1), 91, -1, 0, 0, []), some (.ireturn, 92, 0, 0, 0, [])]
-- LineOrigins.line(III)I
def cd_92 : List (Option En) := [some (.aload_n 0, 1, 0, 0, 0, []), some (.getfield 30, 4, 0, 11, 3, []), none, none, some (.iload_n 1, 5, 0, 1, 0, []), some (.iload_n 2, 6, 0, 2, 0, []), some (.invokevirtual 125, 9, 0, 45, 3, []), none, none, some (.ifCond .ne (5), 12, 0, 14, 0, []), none, none, some (.iconst (-1), 13, -1, 0, 0, []), some (.ireturn, 14, 0, 0, 0, []), some (.iload_n 3, 15, 0, 3, 0, []), some (.tableswitch (119) (0) (6) #[41, 51, 62, 73, 83, 96, 109], 56, 0, 0, 0, [134, 56, 66, 77, 88, 98, 111, 124]), none, none, none, none, none, none, none, none, none, none, none, none, none, none, none, none, none, none, none, none, none, none, none, none, none, none, none, none, none, none, none, none, none, none, none, none, none, none, none, none, some (.aload_n 0, 57, 0, 0, 0, []), some (.getfield 30, 60, 0, 11, 3, []), none, none, some (.iload_n 1, 61, 0, 1, 0, []), some (.iload_n 2, 62, 0, 2, 0, []), some (.invokevirtual 129, 65, 0, 48, 3, []), none, none, some (.ireturn, 66, 0, 0, 0, []), some (.aload_n 0, 67, 0, 0, 0, []), some (.getfield 36, 70, 0, 11, 4, []), none, none, some (.iconst (0), 71, 0, 0, 0, []), some (.iload_n 1, 72, 0, 1, 0, []), some (.iload_n 2, 73, 0, 2, 0, []), some (.invokevirtual 132, 76, 0, 31, 3, []), none, none, some (.ireturn, 77, 0, 0, 0, []), some (.aload_n 0, 78, 0, 0, 0, []), some (.getfield 36, 81, 0, 11, 4, []), none, none, some (.iconst (1), 82, 1, 0, 0, []), some (.iload_n 1, 83, 0, 1, 0, []), some (.iload_n 2, 84, 0, 2, 0, []), some (.invokevirtual 132, 87, 0, 31, 3, []), none, none, some (.ireturn, 88, 0, 0, 0, []), some (.aload_n 0, 89, 0, 0, 0, []), some (.getfield 53, 92, 0, 11, 7, []), none, none, some (.iload_n 1, 93, 0, 1, 0, []), some (.iload_n 2, 94, 0, 2, 0, []), some (.invokevirtual 136, 97, 0, 84, 3, []), none, none, some (.ireturn, 98, 0, 0, 0, []), some (.aload_n 0, 99, 0, 0, 0, []), some (.getfield 53, 102, 0, 11, 7, []), none, none, some (.iload_n 1, 103, 0, 1, 0, []), some (.iload_n 2, 104, 0, 2, 0, []), some (.invokevirtual 139, 107, 0, 82, 3, []), none, none, some (.bipush (8), 109, 8, 0, 0, []), none, some (.idiv, 110, 0, 0, 0, []), some (.ireturn, 111, 0, 0, 0, []), some (.aload_n 0, 112, 0, 0, 0, []), some (.getfield 53, 115, 0, 11, 7, []), none, none, some (.iload_n 1, 116, 0, 1, 0, []), some (.iload_n 2, 117, 0, 2, 0, []), some (.invokevirtual 139, 120, 0, 82, 3, []), none, none, some (.bipush (8), 122, 8, 0, 0, []), none, some (.irem, 123, 0, 0, 0, []), some (.ireturn, 124, 0, 0, 0, []), some (.aload_n 0, 125, 0, 0, 0, []), some (.getfield 53, 128, 0, 11, 7, []), none, none, some (.iload_n 1, 129, 0, 1, 0, []), some (.iload_n 2, 130, 0, 2, 0, []), some (.invokevirtual 142, 133, 0, 83, 3, []), none, none, some (.ireturn, 134, 0, 0, 0, []), some (.iconst (-1), 135, -1, 0, 0, []), some (.ireturn, 136, 0, 0, 0, [])]
-- LineOrigins.blocks(I)I
def cd_93 : List (Option En) := [some (.iload_n 1, 1, 0, 1, 0, []), some (.ifCond .lt (8), 4, 0, 9, 0, []), none, none, some (.iload_n 1, 5, 0, 1, 0, []), some (.iconst (4), 6, 4, 0, 0, []), some (.if_icmp .le (5), 9, 0, 11, 0, []), none, none, some (.iconst (-1), 10, -1, 0, 0, []), some (.ireturn, 11, 0, 0, 0, []), some (.aload_n 0, 12, 0, 0, 0, []), some (.getfield 43, 15, 0, 11, 5, []), none, none, some (.invokevirtual 145, 18, 0, 60, 3, []), none, none, some (.istore_n 2, 19, 0, 2, 0, []), some (.iload_n 1, 20, 0, 1, 0, []), some (.iload_n 2, 21, 0, 2, 0, []), some (.if_icmp .ne (6), 24, 0, 27, 0, []), none, none, some (.bipush (-2), 26, -2, 0, 0, []), none, some (.ireturn, 27, 0, 0, 0, []), some (.aload_n 0, 28, 0, 0, 0, []), some (.getfield 63, 31, 0, 11, 9, []), none, none, some (.aload_n 0, 32, 0, 0, 0, []), some (.getfield 43, 35, 0, 11, 5, []), none, none, some (.invokevirtual 148, 38, 0, 58, 3, []), none, none, some (.invokevirtual 151, 41, 0, 3, 3, []), none, none, some (.aload_n 0, 42, 0, 0, 0, []), some (.getfield 43, 45, 0, 11, 5, []), none, none, some (.iload_n 1, 46, 0, 1, 0, []), some (.invokevirtual 152, 49, 0, 61, 3, []), none, none, some (.aload_n 0, 50, 0, 0, 0, []), some (.invokevirtual 105, 53, 0, 110, 3, []), none, none, some (.iload_n 2, 54, 0, 2, 0, []), some (.ireturn, 55, 0, 0, 0, [])]
-- LineOrigins.passes(I)I
def cd_94 : List (Option En) := [some (.aload_n 0, 1, 0, 0, 0, []), some (.getfield 30, 4, 0, 11, 3, []), none, none, some (.iload_n 1, 5, 0, 1, 0, []), some (.invokevirtual 111, 8, 0, 44, 3, []), none, none, some (.ifCond .ne (5), 11, 0, 13, 0, []), none, none, some (.iconst (-1), 12, -1, 0, 0, []), some (.ireturn, 13, 0, 0, 0, []), some (.aload_n 0, 14, 0, 0, 0, []), some (.getfield 63, 17, 0, 11, 9, []), none, none, some (.aload_n 0, 18, 0, 0, 0, []), some (.getfield 43, 21, 0, 11, 5, []), none, none, some (.invokevirtual 148, 24, 0, 58, 3, []), none, none, some (.invokevirtual 151, 27, 0, 3, 3, []), none, none, some (.aload_n 0, 28, 0, 0, 0, []), some (.getfield 43, 31, 0, 11, 5, []), none, none, some (.iload_n 1, 32, 0, 1, 0, []), some (.invokevirtual 155, 35, 0, 65, 3, []), none, none, some (.aload_n 0, 36, 0, 0, 0, []), some (.invokevirtual 105, 39, 0, 110, 3, []), none, none, some (.aload_n 0, 40, 0, 0, 0, []), some (.getfield 43, 43, 0, 11, 5, []), none, none, some (.iload_n 1, 44, 0, 1, 0, []), some (.invokevirtual 122, 47, 0, 64, 3, []), none, none, some (.ifCond .eq (7), 50, 0, 54, 0, []), none, none, some (.iconst (1), 51, 1, 0, 0, []), some (.goto (4), 54, 0, 55, 0, []), none, none, some (.iconst (0), 55, 0, 0, 0, []), some (.ireturn, 56, 0, 0, 0, [])]
-- LineOrigins.rules(I)I
def cd_95 : List (Option En) := [some (.iload_n 1, 1, 0, 1, 0, []), some (.ifCond .lt (8), 4, 0, 9, 0, []), none, none, some (.iload_n 1, 5, 0, 1, 0, []), some (.iconst (4), 6, 4, 0, 0, []), some (.if_icmp .lt (5), 9, 0, 11, 0, []), none, none, some (.iconst (-1), 10, -1, 0, 0, []), some (.ireturn, 11, 0, 0, 0, []), some (.aload_n 0, 12, 0, 0, 0, []), some (.getfield 63, 15, 0, 11, 9, []), none, none, some (.aload_n 0, 16, 0, 0, 0, []), some (.getfield 43, 19, 0, 11, 5, []), none, none, some (.invokevirtual 148, 22, 0, 58, 3, []), none, none, some (.invokevirtual 151, 25, 0, 3, 3, []), none, none, some (.aload_n 0, 26, 0, 0, 0, []), some (.getfield 43, 29, 0, 11, 5, []), none, none, some (.iload_n 1, 30, 0, 1, 0, []), some (.invokevirtual 158, 33, 0, 68, 3, []), none, none, some (.aload_n 0, 34, 0, 0, 0, []), some (.invokevirtual 105, 37, 0, 110, 3, []), none, none, some (.aload_n 0, 38, 0, 0, 0, []), some (.getfield 43, 41, 0, 11, 5, []), none, none, some (.iload_n 1, 42, 0, 1, 0, []), some (.invokevirtual 161, 45, 0, 67, 3, []), none, none, some (.ifCond .eq (7), 48, 0, 52, 0, []), none, none, some (.iconst (1), 49, 1, 0, 0, []), some (.goto (4), 52, 0, 53, 0, []), none, none, some (.iconst (0), 53, 0, 0, 0, []), some (.ireturn, 54, 0, 0, 0, [])]
-- LineOrigins.undo()I
def cd_96 : List (Option En) := [some (.aload_n 0, 1, 0, 0, 0, []), some (.getfield 63, 4, 0, 11, 9, []), none, none, some (.invokevirtual 164, 7, 0, 1, 3, []), none, none, some (.ifCond .ne (6), 10, 0, 13, 0, []), none, none, some (.bipush (-2), 12, -2, 0, 0, []), none, some (.ireturn, 13, 0, 0, 0, []), some (.aload_n 0, 14, 0, 0, 0, []), some (.getfield 43, 17, 0, 11, 5, []), none, none, some (.aload_n 0, 18, 0, 0, 0, []), some (.getfield 63, 21, 0, 11, 9, []), none, none, some (.invokevirtual 165, 24, 0, 5, 3, []), none, none, some (.invokevirtual 168, 27, 0, 59, 3, []), none, none, some (.aload_n 0, 28, 0, 0, 0, []), some (.invokevirtual 105, 31, 0, 110, 3, []), none, none, some (.aload_n 0, 32, 0, 0, 0, []), some (.getfield 63, 35, 0, 11, 9, []), none, none, some (.invokevirtual 164, 38, 0, 1, 3, []), none, none, some (.ireturn, 39, 0, 0, 0, [])]
-- LineOrigins.gives(III)I
def cd_97 : List (Option En) := [some (.iload_n 1, 1, 0, 1, 0, []), some (.ifCond .lt (20), 4, 0, 21, 0, []), none, none, some (.iload_n 1, 5, 0, 1, 0, []), some (.iconst (4), 6, 4, 0, 0, []), some (.if_icmp .ge (15), 9, 0, 21, 0, []), none, none, some (.aload_n 0, 10, 0, 0, 0, []), some (.getfield 30, 13, 0, 11, 3, []), none, none, some (.iload_n 2, 14, 0, 2, 0, []), some (.iload_n 3, 15, 0, 3, 0, []), some (.invokevirtual 125, 18, 0, 45, 3, []), none, none, some (.ifCond .ne (5), 21, 0, 23, 0, []), none, none, some (.iconst (-1), 22, -1, 0, 0, []), some (.ireturn, 23, 0, 0, 0, []), some (.aload_n 0, 24, 0, 0, 0, []), some (.getfield 36, 27, 0, 11, 4, []), none, none, some (.iload_n 1, 28, 0, 1, 0, []), some (.iload_n 2, 29, 0, 2, 0, []), some (.iload_n 3, 30, 0, 3, 0, []), some (.aload_n 0, 31, 0, 0, 0, []), some (.getfield 43, 34, 0, 11, 5, []), none, none, some (.invokevirtual 171, 37, 0, 33, 3, []), none, none, some (.ireturn, 38, 0, 0, 0, [])]
-- LineOrigins.begun(II)I
def cd_98 : List (Option En) := [some (.aload_n 0, 1, 0, 0, 0, []), some (.getfield 30, 4, 0, 11, 3, []), none, none, some (.iload_n 1, 5, 0, 1, 0, []), some (.invokevirtual 111, 8, 0, 44, 3, []), none, none, some (.ifCond .eq (14), 11, 0, 22, 0, []), none, none, some (.aload_n 0, 12, 0, 0, 0, []), some (.getfield 30, 15, 0, 11, 3, []), none, none, some (.iload_n 2, 16, 0, 2, 0, []), some (.invokevirtual 111, 19, 0, 44, 3, []), none, none, some (.ifCond .ne (5), 22, 0, 24, 0, []), none, none, some (.iconst (-1), 23, -1, 0, 0, []), some (.ireturn, 24, 0, 0, 0, []), some (.iconst (0), 25, 0, 0, 0, []), some (.istore_n 3, 26, 0, 3, 0, []), some (.iconst (0), 27, 0, 0, 0, []), some (.istore 4, 29, 0, 4, 0, []), none, some (.iload 4, 31, 0, 4, 0, []), none, some (.aload_n 0, 32, 0, 0, 0, []), some (.getfield 30, 35, 0, 11, 3, []), none, none, some (.iload_n 1, 36, 0, 1, 0, []), some (.invokevirtual 115, 39, 0, 46, 3, []), none, none, some (.if_icmp .ge (33), 42, 0, 72, 0, []), none, none, some (.aload_n 0, 43, 0, 0, 0, []), some (.getfield 53, 46, 0, 11, 7, []), none, none, some (.iload_n 1, 47, 0, 1, 0, []), some (.iload 4, 49, 0, 4, 0, []), none, some (.invokevirtual 139, 52, 0, 82, 3, []), none, none, some (.bipush (8), 54, 8, 0, 0, []), none, some (.idiv, 55, 0, 0, 0, []), some (.iload_n 2, 56, 0, 2, 0, []), some (.if_icmp .ne (10), 59, 0, 66, 0, []), none, none, some (.iload_n 3, 60, 0, 3, 0, []), some (.iconst (1), 61, 1, 0, 0, []), some (.iload 4, 63, 0, 4, 0, []), none, some (.ishl, 64, 0, 0, 0, []), some (.ior, 65, 0, 0, 0, []), some (.istore_n 3, 66, 0, 3, 0, []), some (.iinc 4 (1), 69, 1, 4, 0, []), none, none, some (.goto (-40), 72, 0, 29, 0, []), none, none, some (.iload_n 3, 73, 0, 3, 0, []), some (.ireturn, 74, 0, 0, 0, [])]
-- LineOrigins.age(II)I
def cd_99 : List (Option En) := [some (.aload_n 0, 1, 0, 0, 0, []), some (.getfield 30, 4, 0, 11, 3, []), none, none, some (.iload_n 1, 5, 0, 1, 0, []), some (.invokevirtual 111, 8, 0, 44, 3, []), none, none, some (.ifCond .eq (7), 11, 0, 15, 0, []), none, none, some (.iload_n 2, 12, 0, 2, 0, []), some (.ifCond .ge (5), 15, 0, 17, 0, []), none, none, some (.iconst (-1), 16, -1, 0, 0, []), some (.ireturn, 17, 0, 0, 0, []), some (.iconst (0), 18, 0, 0, 0, []), some (.istore_n 3, 19, 0, 3, 0, []), some (.iload_n 3, 20, 0, 3, 0, []), some (.aload_n 0, 21, 0, 0, 0, []), some (.getfield 30, 24, 0, 11, 3, []), none, none, some (.iload_n 1, 25, 0, 1, 0, []), some (.invokevirtual 115, 28, 0, 46, 3, []), none, none, some (.if_icmp .ge (21), 31, 0, 49, 0, []), none, none, some (.aload_n 0, 32, 0, 0, 0, []), some (.iload_n 1, 33, 0, 1, 0, []), some (.iload_n 3, 34, 0, 3, 0, []), some (.invokevirtual 175, 37, 0, 112, 3, []), none, none, some (.iload_n 2, 38, 0, 2, 0, []), some (.if_icmp .ne (5), 41, 0, 43, 0, []), none, none, some (.iload_n 3, 42, 0, 3, 0, []), some (.ireturn, 43, 0, 0, 0, []), some (.iinc 3 (1), 46, 1, 3, 0, []), none, none, some (.goto (-27), 49, 0, 19, 0, []), none, none, some (.bipush (-9), 51, -9, 0, 0, []), none, some (.ireturn, 52, 0, 0, 0, [])]
-- LineOrigins.like(III)I
def cd_100 : List (Option En) := [some (.aload_n 0, 1, 0, 0, 0, []), some (.getfield 30, 4, 0, 11, 3, []), none, none, some (.iload_n 1, 5, 0, 1, 0, []), some (.iload_n 2, 6, 0, 2, 0, []), some (.invokevirtual 125, 9, 0, 45, 3, []), none, none, some (.ifCond .eq (14), 12, 0, 23, 0, []), none, none, some (.aload_n 0, 13, 0, 0, 0, []), some (.getfield 30, 16, 0, 11, 3, []), none, none, some (.iload_n 3, 17, 0, 3, 0, []), some (.invokevirtual 111, 20, 0, 44, 3, []), none, none, some (.ifCond .ne (5), 23, 0, 25, 0, []), none, none, some (.iconst (-1), 24, -1, 0, 0, []), some (.ireturn, 25, 0, 0, 0, []), some (.aload_n 0, 26, 0, 0, 0, []), some (.aload_n 0, 27, 0, 0, 0, []), some (.getfield 53, 30, 0, 11, 7, []), none, none, some (.iload_n 1, 31, 0, 1, 0, []), some (.iload_n 2, 32, 0, 2, 0, []), some (.invokevirtual 139, 35, 0, 82, 3, []), none, none, some (.iload_n 3, 36, 0, 3, 0, []), some (.invokevirtual 178, 39, 0, 111, 3, []), none, none, some (.ireturn, 40, 0, 0, 0, [])]
-- LineOrigins.carried(II)I
def cd_101 : List (Option En) := [some (.aload_n 0, 1, 0, 0, 0, []), some (.getfield 30, 4, 0, 11, 3, []), none, none, some (.iload_n 1, 5, 0, 1, 0, []), some (.iload_n 2, 6, 0, 2, 0, []), some (.invokevirtual 125, 9, 0, 45, 3, []), none, none, some (.ifCond .ne (5), 12, 0, 14, 0, []), none, none, some (.iconst (-1), 13, -1, 0, 0, []), some (.ireturn, 14, 0, 0, 0, []), some (.iconst (0), 15, 0, 0, 0, []), some (.istore_n 3, 16, 0, 3, 0, []), some (.iconst (0), 17, 0, 0, 0, []), some (.istore 4, 19, 0, 4, 0, []), none, some (.iload 4, 21, 0, 4, 0, []), none, some (.aload_n 0, 22, 0, 0, 0, []), some (.getfield 30, 25, 0, 11, 3, []), none, none, some (.invokevirtual 108, 28, 0, 43, 3, []), none, none, some (.if_icmp .ge (30), 31, 0, 58, 0, []), none, none, some (.aload_n 0, 32, 0, 0, 0, []), some (.iload_n 1, 33, 0, 1, 0, []), some (.iload_n 2, 34, 0, 2, 0, []), some (.invokestatic 181, 37, 0, 114, 4, []), none, none, some (.iload 4, 39, 0, 4, 0, []), none, some (.invokevirtual 178, 42, 0, 111, 3, []), none, none, some (.ifCond .eq (10), 45, 0, 52, 0, []), none, none, some (.iload_n 3, 46, 0, 3, 0, []), some (.iconst (1), 47, 1, 0, 0, []), some (.iload 4, 49, 0, 4, 0, []), none, some (.ishl, 50, 0, 0, 0, []), some (.ior, 51, 0, 0, 0, []), some (.istore_n 3, 52, 0, 3, 0, []), some (.iinc 4 (1), 55, 1, 4, 0, []), none, none, some (.goto (-36), 58, 0, 19, 0, []), none, none, some (.iload_n 3, 59, 0, 3, 0, []), some (.ireturn, 60, 0, 0, 0, [])]
-- LineOrigins.kept(II)I
def cd_102 : List (Option En) := [some (.aload_n 0, 1, 0, 0, 0, []), some (.getfield 30, 4, 0, 11, 3, []), none, none, some (.iload_n 1, 5, 0, 1, 0, []), some (.invokevirtual 111, 8, 0, 44, 3, []), none, none, some (.ifCond .eq (14), 11, 0, 22, 0, []), none, none, some (.aload_n 0, 12, 0, 0, 0, []), some (.getfield 30, 15, 0, 11, 3, []), none, none, some (.iload_n 2, 16, 0, 2, 0, []), some (.invokevirtual 111, 19, 0, 44, 3, []), none, none, some (.ifCond .ne (5), 22, 0, 24, 0, []), none, none, some (.iconst (-1), 23, -1, 0, 0, []), some (.ireturn, 24, 0, 0, 0, []), some (.iconst (0), 25, 0, 0, 0, []), some (.istore_n 3, 26, 0, 3, 0, []), some (.iconst (0), 27, 0, 0, 0, []), some (.istore 4, 29, 0, 4, 0, []), none, some (.iload 4, 31, 0, 4, 0, []), none, some (.aload_n 0, 32, 0, 0, 0, []), some (.getfield 30, 35, 0, 11, 3, []), none, none, some (.iload_n 1, 36, 0, 1, 0, []), some (.invokevirtual 115, 39, 0, 46, 3, []), none, none, some (.if_icmp .ge (26), 42, 0, 65, 0, []), none, none, some (.aload_n 0, 43, 0, 0, 0, []), some (.iload_n 1, 44, 0, 1, 0, []), some (.iload 4, 46, 0, 4, 0, []), none, some (.invokestatic 181, 49, 0, 114, 4, []), none, none, some (.iload_n 2, 50, 0, 2, 0, []), some (.invokevirtual 178, 53, 0, 111, 3, []), none, none, some (.ifCond .eq (6), 56, 0, 59, 0, []), none, none, some (.iinc 3 (1), 59, 1, 3, 0, []), none, none, some (.iinc 4 (1), 62, 1, 4, 0, []), none, none, some (.goto (-33), 65, 0, 29, 0, []), none, none, some (.iload_n 3, 66, 0, 3, 0, []), some (.ireturn, 67, 0, 0, 0, [])]
-- LineOrigins.common(II)I
def cd_103 : List (Option En) := [some (.aload_n 0, 1, 0, 0, 0, []), some (.getfield 30, 4, 0, 11, 3, []), none, none, some (.iload_n 1, 5, 0, 1, 0, []), some (.invokevirtual 111, 8, 0, 44, 3, []), none, none, some (.ifCond .eq (12), 11, 0, 20, 0, []), none, none, some (.iload_n 2, 12, 0, 2, 0, []), some (.ifCond .lt (8), 15, 0, 20, 0, []), none, none, some (.iload_n 2, 16, 0, 2, 0, []), some (.iconst (2), 17, 2, 0, 0, []), some (.if_icmp .lt (5), 20, 0, 22, 0, []), none, none, some (.iconst (-1), 21, -1, 0, 0, []), some (.ireturn, 22, 0, 0, 0, []), some (.aload_n 0, 23, 0, 0, 0, []), some (.getfield 36, 26, 0, 11, 4, []), none, none, some (.iload_n 2, 27, 0, 2, 0, []), some (.iload_n 1, 28, 0, 1, 0, []), some (.invokevirtual 184, 31, 0, 32, 3, []), none, none, some (.ireturn, 32, 0, 0, 0, [])]
-- LineOrigins.sees(IIII)I
def cd_104 : List (Option En) := [some (.aload_n 0, 1, 0, 0, 0, []), some (.getfield 30, 4, 0, 11, 3, []), none, none, some (.iload_n 1, 5, 0, 1, 0, []), some (.iload_n 2, 6, 0, 2, 0, []), some (.invokevirtual 125, 9, 0, 45, 3, []), none, none, some (.ifCond .eq (25), 12, 0, 34, 0, []), none, none, some (.aload_n 0, 13, 0, 0, 0, []), some (.getfield 30, 16, 0, 11, 3, []), none, none, some (.iload_n 3, 17, 0, 3, 0, []), some (.invokevirtual 111, 20, 0, 44, 3, []), none, none, some (.ifCond .eq (14), 23, 0, 34, 0, []), none, none, some (.iload 4, 25, 0, 4, 0, []), none, some (.ifCond .lt (9), 28, 0, 34, 0, []), none, none, some (.iload 4, 30, 0, 4, 0, []), none, some (.iconst (1), 31, 1, 0, 0, []), some (.if_icmp .le (5), 34, 0, 36, 0, []), none, none, some (.iconst (-1), 35, -1, 0, 0, []), some (.ireturn, 36, 0, 0, 0, []), some (.aload_n 0, 37, 0, 0, 0, []), some (.getfield 70, 40, 0, 11, 10, []), none, none, some (.invokevirtual 187, 43, 0, 70, 3, []), none, none, some (.bipush (6), 45, 6, 0, 0, []), none, some (.if_icmp .lt (6), 48, 0, 51, 0, []), none, none, some (.bipush (-3), 50, -3, 0, 0, []), none, some (.ireturn, 51, 0, 0, 0, []), some (.aload_n 0, 52, 0, 0, 0, []), some (.getfield 70, 55, 0, 11, 10, []), none, none, some (.iload_n 1, 56, 0, 1, 0, []), some (.iload_n 2, 57, 0, 2, 0, []), some (.invokestatic 181, 60, 0, 114, 4, []), none, none, some (.iload_n 3, 61, 0, 3, 0, []), some (.iload 4, 63, 0, 4, 0, []), none, some (.iconst (1), 64, 1, 0, 0, []), some (.if_icmp .ne (7), 67, 0, 71, 0, []), none, none, some (.iconst (1), 68, 1, 0, 0, []), some (.goto (4), 71, 0, 72, 0, []), none, none, some (.iconst (0), 72, 0, 0, 0, []), some (.invokevirtual 188, 75, 0, 72, 3, []), none, none, some (.aload_n 0, 76, 0, 0, 0, []), some (.getfield 70, 79, 0, 11, 10, []), none, none, some (.invokevirtual 187, 82, 0, 70, 3, []), none, none, some (.ireturn, 83, 0, 0, 0, [])]
-- LineOrigins.forget()I
def cd_105 : List (Option En) := [some (.aload_n 0, 1, 0, 0, 0, []), some (.getfield 70, 4, 0, 11, 10, []), none, none, some (.invokevirtual 187, 7, 0, 70, 3, []), none, none, some (.istore_n 1, 8, 0, 1, 0, []), some (.aload_n 0, 9, 0, 0, 0, []), some (.getfield 70, 12, 0, 11, 10, []), none, none, some (.invokevirtual 104, 15, 0, 71, 3, []), none, none, some (.iload_n 1, 16, 0, 1, 0, []), some (.ireturn, 17, 0, 0, 0, [])]
-- LineOrigins.unseen()I
def cd_106 : List (Option En) := [some (.iconst (0), 1, 0, 0, 0, []), some (.istore_n 1, 2, 0, 1, 0, []), some (.iconst (0), 3, 0, 0, 0, []), some (.istore_n 2, 4, 0, 2, 0, []), some (.iload_n 2, 5, 0, 2, 0, []), some (.aload_n 0, 6, 0, 0, 0, []), some (.getfield 30, 9, 0, 11, 3, []), none, none, some (.invokevirtual 108, 12, 0, 43, 3, []), none, none, some (.if_icmp .ge (70), 15, 0, 82, 0, []), none, none, some (.aload_n 0, 16, 0, 0, 0, []), some (.getfield 47, 19, 0, 11, 6, []), none, none, some (.aload_n 0, 20, 0, 0, 0, []), some (.getfield 43, 23, 0, 11, 5, []), none, none, some (.invokevirtual 148, 26, 0, 58, 3, []), none, none, some (.invokevirtual 168, 29, 0, 59, 3, []), none, none, some (.aload_n 0, 30, 0, 0, 0, []), some (.getfield 47, 33, 0, 11, 6, []), none, none, some (.iload_n 2, 34, 0, 2, 0, []), some (.invokevirtual 155, 37, 0, 65, 3, []), none, none, some (.aload_n 0, 38, 0, 0, 0, []), some (.getfield 57, 41, 0, 11, 8, []), none, none, some (.aload_n 0, 42, 0, 0, 0, []), some (.getfield 30, 45, 0, 11, 3, []), none, none, some (.aload_n 0, 46, 0, 0, 0, []), some (.getfield 36, 49, 0, 11, 4, []), none, none, some (.aload_n 0, 50, 0, 0, 0, []), some (.getfield 47, 53, 0, 11, 6, []), none, none, some (.invokevirtual 191, 56, 0, 85, 3, []), none, none, some (.aload_n 0, 57, 0, 0, 0, []), some (.getfield 70, 60, 0, 11, 10, []), none, none, some (.aload_n 0, 61, 0, 0, 0, []), some (.getfield 57, 64, 0, 11, 8, []), none, none, some (.invokevirtual 195, 67, 0, 73, 3, []), none, none, some (.ifCond .eq (9), 70, 0, 76, 0, []), none, none, some (.iload_n 1, 71, 0, 1, 0, []), some (.iconst (1), 72, 1, 0, 0, []), some (.iload_n 2, 73, 0, 2, 0, []), some (.ishl, 74, 0, 0, 0, []), some (.ior, 75, 0, 0, 0, []), some (.istore_n 1, 76, 0, 1, 0, []), some (.iinc 2 (1), 79, 1, 2, 0, []), none, none, some (.goto (-75), 82, 0, 4, 0, []), none, none, some (.iload_n 1, 83, 0, 1, 0, []), some (.ireturn, 84, 0, 0, 0, [])]
-- LineOrigins.keep(I)I
def cd_107 : List (Option En) := [some (.iload_n 1, 1, 0, 1, 0, []), some (.ifCond .lt (8), 4, 0, 9, 0, []), none, none, some (.iload_n 1, 5, 0, 1, 0, []), some (.iconst (2), 6, 2, 0, 0, []), some (.if_icmp .lt (5), 9, 0, 11, 0, []), none, none, some (.iconst (-1), 10, -1, 0, 0, []), some (.ireturn, 11, 0, 0, 0, []), some (.aload_n 0, 12, 0, 0, 0, []), some (.getfield 74, 15, 0, 11, 11, []), none, none, some (.iload_n 1, 16, 0, 1, 0, []), some (.aload_n 0, 17, 0, 0, 0, []), some (.getfield 43, 20, 0, 11, 5, []), none, none, some (.invokevirtual 148, 23, 0, 58, 3, []), none, none, some (.iastore, 24, 0, 0, 0, []), some (.aload_n 0, 25, 0, 0, 0, []), some (.getfield 43, 28, 0, 11, 5, []), none, none, some (.invokevirtual 145, 31, 0, 60, 3, []), none, none, some (.ireturn, 32, 0, 0, 0, [])]
-- LineOrigins.back(I)I
def cd_108 : List (Option En) := [some (.iload_n 1, 1, 0, 1, 0, []), some (.ifCond .lt (8), 4, 0, 9, 0, []), none, none, some (.iload_n 1, 5, 0, 1, 0, []), some (.iconst (2), 6, 2, 0, 0, []), some (.if_icmp .lt (5), 9, 0, 11, 0, []), none, none, some (.iconst (-1), 10, -1, 0, 0, []), some (.ireturn, 11, 0, 0, 0, []), some (.aload_n 0, 12, 0, 0, 0, []), some (.getfield 74, 15, 0, 11, 11, []), none, none, some (.iload_n 1, 16, 0, 1, 0, []), some (.iaload, 17, 0, 0, 0, []), some (.bipush (-9), 19, -9, 0, 0, []), none, some (.if_icmp .ne (6), 22, 0, 25, 0, []), none, none, some (.bipush (-2), 24, -2, 0, 0, []), none, some (.ireturn, 25, 0, 0, 0, []), some (.aload_n 0, 26, 0, 0, 0, []), some (.getfield 43, 29, 0, 11, 5, []), none, none, some (.aload_n 0, 30, 0, 0, 0, []), some (.getfield 74, 33, 0, 11, 11, []), none, none, some (.iload_n 1, 34, 0, 1, 0, []), some (.iaload, 35, 0, 0, 0, []), some (.invokevirtual 168, 38, 0, 59, 3, []), none, none, some (.aload_n 0, 39, 0, 0, 0, []), some (.getfield 63, 42, 0, 11, 9, []), none, none, some (.invokevirtual 103, 45, 0, 2, 3, []), none, none, some (.aload_n 0, 46, 0, 0, 0, []), some (.invokevirtual 105, 49, 0, 110, 3, []), none, none, some (.aload_n 0, 50, 0, 0, 0, []), some (.getfield 43, 53, 0, 11, 5, []), none, none, some (.invokevirtual 145, 56, 0, 60, 3, []), none, none, some (.ireturn, 57, 0, 0, 0, [])]
-- LineOrigins.count(I)I
def cd_109 : List (Option En) := [some (.iload_n 1, 1, 0, 1, 0, []), some (.tableswitch (120) (0) (8) #[51, 59, 67, 75, 83, 91, 96, 104, 112], 52, 0, 0, 0, [121, 52, 60, 68, 76, 84, 92, 97, 105, 113]), none, none, none, none, none, none, none, none, none, none, none, none, none, none, none, none, none, none, none, none, none, none, none, none, none, none, none, none, none, none, none, none, none, none, none, none, none, none, none, none, none, none, none, none, none, none, none, none, none, none, some (.aload_n 0, 53, 0, 0, 0, []), some (.getfield 30, 56, 0, 11, 3, []), none, none, some (.invokevirtual 108, 59, 0, 43, 3, []), none, none, some (.ireturn, 60, 0, 0, 0, []), some (.aload_n 0, 61, 0, 0, 0, []), some (.getfield 43, 64, 0, 11, 5, []), none, none, some (.invokevirtual 145, 67, 0, 60, 3, []), none, none, some (.ireturn, 68, 0, 0, 0, []), some (.aload_n 0, 69, 0, 0, 0, []), some (.getfield 43, 72, 0, 11, 5, []), none, none, some (.invokevirtual 199, 75, 0, 63, 3, []), none, none, some (.ireturn, 76, 0, 0, 0, []), some (.aload_n 0, 77, 0, 0, 0, []), some (.getfield 43, 80, 0, 11, 5, []), none, none, some (.invokevirtual 202, 83, 0, 66, 3, []), none, none, some (.ireturn, 84, 0, 0, 0, []), some (.aload_n 0, 85, 0, 0, 0, []), some (.getfield 30, 88, 0, 11, 3, []), none, none, some (.invokevirtual 205, 91, 0, 49, 3, []), none, none, some (.ireturn, 92, 0, 0, 0, []), some (.aload_n 0, 93, 0, 0, 0, []), some (.invokevirtual 208, 96, 0, 113, 3, []), none, none, some (.ireturn, 97, 0, 0, 0, []), some (.aload_n 0, 98, 0, 0, 0, []), some (.getfield 70, 101, 0, 11, 10, []), none, none, some (.invokevirtual 187, 104, 0, 70, 3, []), none, none, some (.ireturn, 105, 0, 0, 0, []), some (.aload_n 0, 106, 0, 0, 0, []), some (.getfield 12, 109, 0, 11, 0, []), none, none, some (.invokevirtual 78, 112, 0, 75, 3, []), none, none, some (.ireturn, 113, 0, 0, 0, []), some (.aload_n 0, 114, 0, 0, 0, []), some (.getfield 63, 117, 0, 11, 9, []), none, none, some (.invokevirtual 164, 120, 0, 1, 3, []), none, none, some (.ireturn, 121, 0, 0, 0, []), some (.iconst (-1), 122, -1, 0, 0, []), some (.ireturn, 123, 0, 0, 0, [])]
-- LineOrigins.traceAnew()V
def cd_110 : List (Option En) := [some (.aload_n 0, 1, 0, 0, 0, []), some (.getfield 53, 4, 0, 11, 7, []), none, none, some (.aload_n 0, 5, 0, 0, 0, []), some (.getfield 30, 8, 0, 11, 3, []), none, none, some (.aload_n 0, 9, 0, 0, 0, []), some (.getfield 36, 12, 0, 11, 4, []), none, none, some (.aload_n 0, 13, 0, 0, 0, []), some (.getfield 43, 16, 0, 11, 5, []), none, none, some (.invokevirtual 191, 19, 0, 85, 3, []), none, none, some (.return_, 20, 0, 0, 0, [])]
-- LineOrigins.linesFrom(II)I
def cd_111 : List (Option En) := [some (.iconst (0), 1, 0, 0, 0, []), some (.istore_n 3, 2, 0, 3, 0, []), some (.iconst (0), 3, 0, 0, 0, []), some (.istore 4, 5, 0, 4, 0, []), none, some (.iload 4, 7, 0, 4, 0, []), none, some (.aload_n 0, 8, 0, 0, 0, []), some (.getfield 30, 11, 0, 11, 3, []), none, none, some (.iload_n 2, 12, 0, 2, 0, []), some (.invokevirtual 115, 15, 0, 46, 3, []), none, none, some (.if_icmp .ge (30), 18, 0, 45, 0, []), none, none, some (.aload_n 0, 19, 0, 0, 0, []), some (.getfield 53, 22, 0, 11, 7, []), none, none, some (.iload_n 2, 23, 0, 2, 0, []), some (.iload 4, 25, 0, 4, 0, []), none, some (.invokevirtual 139, 28, 0, 82, 3, []), none, none, some (.iload_n 1, 29, 0, 1, 0, []), some (.if_icmp .ne (10), 32, 0, 39, 0, []), none, none, some (.iload_n 3, 33, 0, 3, 0, []), some (.iconst (1), 34, 1, 0, 0, []), some (.iload 4, 36, 0, 4, 0, []), none, some (.ishl, 37, 0, 0, 0, []), some (.ior, 38, 0, 0, 0, []), some (.istore_n 3, 39, 0, 3, 0, []), some (.iinc 4 (1), 42, 1, 4, 0, []), none, none, some (.goto (-37), 45, 0, 5, 0, []), none, none, some (.iload_n 3, 46, 0, 3, 0, []), some (.ireturn, 47, 0, 0, 0, [])]
-- LineOrigins.olderOnes(II)I
def cd_112 : List (Option En) := [some (.aload_n 0, 1, 0, 0, 0, []), some (.getfield 53, 4, 0, 11, 7, []), none, none, some (.iload_n 1, 5, 0, 1, 0, []), some (.iload_n 2, 6, 0, 2, 0, []), some (.invokevirtual 139, 9, 0, 82, 3, []), none, none, some (.istore_n 3, 10, 0, 3, 0, []), some (.iconst (0), 11, 0, 0, 0, []), some (.istore 4, 13, 0, 4, 0, []), none, some (.iconst (0), 14, 0, 0, 0, []), some (.istore 5, 16, 0, 5, 0, []), none, some (.iload 5, 18, 0, 5, 0, []), none, some (.aload_n 0, 19, 0, 0, 0, []), some (.getfield 30, 22, 0, 11, 3, []), none, none, some (.iload_n 1, 23, 0, 1, 0, []), some (.invokevirtual 115, 26, 0, 46, 3, []), none, none, some (.if_icmp .ge (42), 29, 0, 68, 0, []), none, none, some (.aload_n 0, 30, 0, 0, 0, []), some (.getfield 53, 33, 0, 11, 7, []), none, none, some (.iload_n 1, 34, 0, 1, 0, []), some (.iload 5, 36, 0, 5, 0, []), none, some (.invokevirtual 139, 39, 0, 82, 3, []), none, none, some (.istore 6, 41, 0, 6, 0, []), none, some (.iload 6, 43, 0, 6, 0, []), none, some (.iload_n 3, 44, 0, 3, 0, []), some (.if_icmp .lt (15), 47, 0, 59, 0, []), none, none, some (.iload 6, 49, 0, 6, 0, []), none, some (.iload_n 3, 50, 0, 3, 0, []), some (.if_icmp .ne (12), 53, 0, 62, 0, []), none, none, some (.iload 5, 55, 0, 5, 0, []), none, some (.iload_n 2, 56, 0, 2, 0, []), some (.if_icmp .ge (6), 59, 0, 62, 0, []), none, none, some (.iinc 4 (1), 62, 1, 4, 0, []), none, none, some (.iinc 5 (1), 65, 1, 5, 0, []), none, none, some (.goto (-49), 68, 0, 16, 0, []), none, none, some (.iload 4, 70, 0, 4, 0, []), none, some (.ireturn, 71, 0, 0, 0, [])]
-- LineOrigins.ownOrigins()I
def cd_113 : List (Option En) := [some (.iconst (0), 1, 0, 0, 0, []), some (.istore_n 1, 2, 0, 1, 0, []), some (.iconst (0), 3, 0, 0, 0, []), some (.istore_n 2, 4, 0, 2, 0, []), some (.iload_n 2, 5, 0, 2, 0, []), some (.aload_n 0, 6, 0, 0, 0, []), some (.getfield 30, 9, 0, 11, 3, []), none, none, some (.invokevirtual 108, 12, 0, 43, 3, []), none, none, some (.if_icmp .ge (49), 15, 0, 61, 0, []), none, none, some (.iconst (0), 16, 0, 0, 0, []), some (.istore_n 3, 17, 0, 3, 0, []), some (.iload_n 3, 18, 0, 3, 0, []), some (.aload_n 0, 19, 0, 0, 0, []), some (.getfield 30, 22, 0, 11, 3, []), none, none, some (.iload_n 2, 23, 0, 2, 0, []), some (.invokevirtual 115, 26, 0, 46, 3, []), none, none, some (.if_icmp .ge (29), 29, 0, 55, 0, []), none, none, some (.aload_n 0, 30, 0, 0, 0, []), some (.getfield 53, 33, 0, 11, 7, []), none, none, some (.iload_n 2, 34, 0, 2, 0, []), some (.iload_n 3, 35, 0, 3, 0, []), some (.invokevirtual 139, 38, 0, 82, 3, []), none, none, some (.iload_n 2, 39, 0, 2, 0, []), some (.iload_n 3, 40, 0, 3, 0, []), some (.invokestatic 181, 43, 0, 114, 4, []), none, none, some (.if_icmp .ne (6), 46, 0, 49, 0, []), none, none, some (.iinc 1 (1), 49, 1, 1, 0, []), none, none, some (.iinc 3 (1), 52, 1, 3, 0, []), none, none, some (.goto (-35), 55, 0, 17, 0, []), none, none, some (.iinc 2 (1), 58, 1, 2, 0, []), none, none, some (.goto (-54), 61, 0, 4, 0, []), none, none, some (.iload_n 1, 62, 0, 1, 0, []), some (.ireturn, 63, 0, 0, 0, [])]
-- LineOrigins.address(II)I
def cd_114 : List (Option En) := [some (.iload_n 0, 1, 0, 0, 0, []), some (.bipush (8), 3, 8, 0, 0, []), none, some (.imul, 4, 0, 0, 0, []), some (.iload_n 1, 5, 0, 1, 0, []), some (.iadd, 6, 0, 0, 0, []), some (.ireturn, 7, 0, 0, 0, [])]
-- LineOrigins.isPlace(II)Z
def cd_115 : List (Option En) := [some (.iload_n 0, 1, 0, 0, 0, []), some (.ifCond .lt (23), 4, 0, 24, 0, []), none, none, some (.iload_n 0, 5, 0, 0, 0, []), some (.bipush (8), 7, 8, 0, 0, []), none, some (.if_icmp .ge (17), 10, 0, 24, 0, []), none, none, some (.iload_n 1, 11, 0, 1, 0, []), some (.ifCond .lt (13), 14, 0, 24, 0, []), none, none, some (.iload_n 1, 15, 0, 1, 0, []), some (.bipush (8), 17, 8, 0, 0, []), none, some (.if_icmp .ge (7), 20, 0, 24, 0, []), none, none, some (.iconst (1), 21, 1, 0, 0, []), some (.goto (4), 24, 0, 25, 0, []), none, none, some (.iconst (0), 25, 0, 0, 0, []), some (.ireturn, 26, 0, 0, 0, [])]
-- LineOriginsModel.<init>()V
def cd_116 : List (Option En) := [some (.aload_n 0, 1, 0, 0, 0, []), some (.invokespecial 1, 4, 0, 0, 2, []), none, none, some (.aload_n 0, 5, 0, 0, 0, []), some (.bipush (8), 7, 8, 0, 0, []), none, some (.newarray .int, 9, 0, 0, 0, []), none, some (.putfield 7, 12, 0, 12, 1, []), none, none, some (.aload_n 0, 13, 0, 0, 0, []), some (.bipush (16), 15, 16, 0, 0, []), none, some (.newarray .int, 17, 0, 0, 0, []), none, some (.putfield 13, 20, 0, 12, 2, []), none, none, some (.aload_n 0, 21, 0, 0, 0, []), some (.bipush (64), 23, 64, 0, 0, []), none, some (.newarray .int, 25, 0, 0, 0, []), none, some (.putfield 16, 28, 0, 12, 3, []), none, none, some (.aload_n 0, 29, 0, 0, 0, []), some (.sipush (128), 32, 128, 0, 0, []), none, none, some (.newarray .int, 34, 0, 0, 0, []), none, some (.putfield 19, 37, 0, 12, 4, []), none, none, some (.aload_n 0, 38, 0, 0, 0, []), some (.bipush (64), 40, 64, 0, 0, []), none, some (.newarray .int, 42, 0, 0, 0, []), none, some (.putfield 22, 45, 0, 12, 5, []), none, none, some (.aload_n 0, 46, 0, 0, 0, []), some (.iconst (3), 47, 3, 0, 0, []), some (.newarray .int, 49, 0, 0, 0, []), none, some (.putfield 25, 52, 0, 12, 6, []), none, none, some (.aload_n 0, 53, 0, 0, 0, []), some (.bipush (30), 55, 30, 0, 0, []), none, some (.newarray .int, 57, 0, 0, 0, []), none, some (.putfield 28, 60, 0, 12, 7, []), none, none, some (.aload_n 0, 61, 0, 0, 0, []), some (.bipush (120), 63, 120, 0, 0, []), none, some (.newarray .int, 65, 0, 0, 0, []), none, some (.putfield 31, 68, 0, 12, 9, []), none, none, some (.aload_n 0, 69, 0, 0, 0, []), some (.bipush (8), 71, 8, 0, 0, []), none, some (.newarray .int, 73, 0, 0, 0, []), none, some (.putfield 34, 76, 0, 12, 17, []), none, none, some (.aload_n 0, 77, 0, 0, 0, []), some (.bipush (16), 79, 16, 0, 0, []), none, some (.newarray .int, 81, 0, 0, 0, []), none, some (.putfield 37, 84, 0, 12, 18, []), none, none, some (.aload_n 0, 85, 0, 0, 0, []), some (.bipush (64), 87, 64, 0, 0, []), none, some (.newarray .int, 89, 0, 0, 0, []), none, some (.putfield 40, 92, 0, 12, 19, []), none, none, some (.aload_n 0, 93, 0, 0, 0, []), some (.bipush (81), 95, 81, 0, 0, []), none, some (.newarray .int, 97, 0, 0, 0, []), none, some (.putfield 43, 100, 0, 12, 20, []), none, none, some (.aload_n 0, 101, 0, 0, 0, []), some (.bipush (64), 103, 64, 0, 0, []), none, some (.newarray .int, 105, 0, 0, 0, []), none, some (.putfield 46, 108, 0, 12, 21, []), none, none, some (.aload_n 0, 109, 0, 0, 0, []), some (.bipush (64), 111, 64, 0, 0, []), none, some (.newarray .int, 113, 0, 0, 0, []), none, some (.putfield 49, 116, 0, 12, 22, []), none, none, some (.aload_n 0, 117, 0, 0, 0, []), some (.bipush (24), 119, 24, 0, 0, []), none, some (.newarray .int, 121, 0, 0, 0, []), none, some (.putfield 52, 124, 0, 12, 23, []), none, none, some (.aload_n 0, 125, 0, 0, 0, []), some (.bipush (6), 127, 6, 0, 0, []), none, some (.newarray .int, 129, 0, 0, 0, []), none, some (.putfield 55, 132, 0, 12, 25, []), none, none, some (.aload_n 0, 133, 0, 0, 0, []), some (.iconst (2), 134, 2, 0, 0, []), some (.newarray .boolean, 136, 0, 1, 0, []), none, some (.putfield 58, 139, 0, 12, 26, []), none, none, some (.aload_n 0, 140, 0, 0, 0, []), some (.invokevirtual 62, 143, 0, 117, 3, []), none, none, some (.return_, 144, 0, 0, 0, [])]
-- LineOriginsModel.begin()V
def cd_117 : List (Option En) := [some (.aload_n 0, 1, 0, 0, 0, []), some (.getfield 25, 4, 0, 12, 6, []), none, none, some (.iconst (0), 5, 0, 0, 0, []), some (.iconst (2), 6, 2, 0, 0, []), some (.iastore, 7, 0, 0, 0, []), some (.aload_n 0, 8, 0, 0, 0, []), some (.getfield 25, 11, 0, 12, 6, []), none, none, some (.iconst (1), 12, 1, 0, 0, []), some (.iconst (0), 13, 0, 0, 0, []), some (.iastore, 14, 0, 0, 0, []), some (.aload_n 0, 15, 0, 0, 0, []), some (.getfield 25, 18, 0, 12, 6, []), none, none, some (.iconst (2), 19, 2, 0, 0, []), some (.bipush (15), 21, 15, 0, 0, []), none, some (.iastore, 22, 0, 0, 0, []), some (.aload_n 0, 23, 0, 0, 0, []), some (.iconst (0), 24, 0, 0, 0, []), some (.putfield 65, 27, 0, 12, 8, []), none, none, some (.aload_n 0, 28, 0, 0, 0, []), some (.iconst (0), 29, 0, 0, 0, []), some (.putfield 69, 32, 0, 12, 24, []), none, none, some (.aload_n 0, 33, 0, 0, 0, []), some (.getfield 58, 36, 0, 12, 26, []), none, none, some (.iconst (0), 37, 0, 0, 0, []), some (.iconst (0), 38, 0, 0, 0, []), some (.bastore, 39, 0, 0, 0, []), some (.aload_n 0, 40, 0, 0, 0, []), some (.getfield 58, 43, 0, 12, 26, []), none, none, some (.iconst (1), 44, 1, 0, 0, []), some (.iconst (0), 45, 0, 0, 0, []), some (.bastore, 46, 0, 0, 0, []), some (.return_, 47, 0, 0, 0, [])]
-- LineOriginsModel.in(JJJ)Z
def cd_118 : List (Option En) := [some (.lload_n 0, 1, 0, 0, 0, []), some (.lload_n 2, 2, 0, 2, 0, []), some (.lcmp, 3, 0, 0, 0, []), some (.ifCond .lt (14), 6, 0, 17, 0, []), none, none, some (.lload_n 0, 7, 0, 0, 0, []), some (.lload 4, 9, 0, 4, 0, []), none, some (.lcmp, 10, 0, 0, 0, []), some (.ifCond .gt (7), 13, 0, 17, 0, []), none, none, some (.iconst (1), 14, 1, 0, 0, []), some (.goto (4), 17, 0, 18, 0, []), none, none, some (.iconst (0), 18, 0, 0, 0, []), some (.ireturn, 19, 0, 0, 0, [])]
-- LineOriginsModel.has(II)Z
def cd_119 : List (Option En) := [some (.iload_n 0, 1, 0, 0, 0, []), some (.iload_n 1, 2, 0, 1, 0, []), some (.ishr, 3, 0, 0, 0, []), some (.iconst (1), 4, 1, 0, 0, []), some (.iand, 5, 0, 0, 0, []), some (.iconst (1), 6, 1, 0, 0, []), some (.if_icmp .ne (7), 9, 0, 13, 0, []), none, none, some (.iconst (1), 10, 1, 0, 0, []), some (.goto (4), 13, 0, 14, 0, []), none, none, some (.iconst (0), 14, 0, 0, 0, []), some (.ireturn, 15, 0, 0, 0, [])]
-- LineOriginsModel.isRevision(I)Z
def cd_120 : List (Option En) := [some (.iload_n 1, 1, 0, 1, 0, []), some (.i2l, 2, 0, 0, 0, []), some (.lconst 0, 3, 0, 0, 0, []), some (.aload_n 0, 4, 0, 0, 0, []), some (.getfield 72, 7, 0, 12, 0, []), none, none, some (.iconst (1), 8, 1, 0, 0, []), some (.isub, 9, 0, 0, 0, []), some (.i2l, 10, 0, 0, 0, []), some (.invokestatic 75, 13, 0, 118, 4, []), none, none, some (.ireturn, 14, 0, 0, 0, [])]
-- LineOriginsModel.isLine(II)Z
def cd_121 : List (Option En) := [some (.aload_n 0, 1, 0, 0, 0, []), some (.iload_n 1, 2, 0, 1, 0, []), some (.invokevirtual 79, 5, 0, 120, 3, []), none, none, some (.ifCond .eq (25), 8, 0, 30, 0, []), none, none, some (.iload_n 2, 9, 0, 2, 0, []), some (.i2l, 10, 0, 0, 0, []), some (.lconst 0, 11, 0, 0, 0, []), some (.aload_n 0, 12, 0, 0, 0, []), some (.getfield 7, 15, 0, 12, 1, []), none, none, some (.iload_n 1, 16, 0, 1, 0, []), some (.iaload, 17, 0, 0, 0, []), some (.iconst (1), 18, 1, 0, 0, []), some (.isub, 19, 0, 0, 0, []), some (.i2l, 20, 0, 0, 0, []), some (.invokestatic 75, 23, 0, 118, 4, []), none, none, some (.ifCond .eq (7), 26, 0, 30, 0, []), none, none, some (.iconst (1), 27, 1, 0, 0, []), some (.goto (4), 30, 0, 31, 0, []), none, none, some (.iconst (0), 31, 0, 0, 0, []), some (.ireturn, 32, 0, 0, 0, [])]
-- LineOriginsModel.type(I)I
def cd_122 : List (Option En) := [some (.iload_n 1, 1, 0, 1, 0, []), some (.i2l, 2, 0, 0, 0, []), some (.lconst 0, 3, 0, 0, 0, []), some (.ldc2_w 83, 6, 255, 0, 0, []), none, none, some (.invokestatic 75, 9, 0, 118, 4, []), none, none, some (.ifCond .ne (5), 12, 0, 14, 0, []), none, none, some (.iconst (-1), 13, -1, 0, 0, []), some (.ireturn, 14, 0, 0, 0, []), some (.aload_n 0, 15, 0, 0, 0, []), some (.getfield 85, 18, 0, 12, 10, []), none, none, some (.bipush (120), 20, 120, 0, 0, []), none, some (.if_icmp .ne (6), 23, 0, 26, 0, []), none, none, some (.bipush (-3), 25, -3, 0, 0, []), none, some (.ireturn, 26, 0, 0, 0, []), some (.aload_n 0, 27, 0, 0, 0, []), some (.getfield 31, 30, 0, 12, 9, []), none, none, some (.aload_n 0, 31, 0, 0, 0, []), some (.getfield 85, 34, 0, 12, 10, []), none, none, some (.iload_n 1, 35, 0, 1, 0, []), some (.iastore, 36, 0, 0, 0, []), some (.aload_n 0, 37, 0, 0, 0, []), some (.dup, 38, 0, 0, 0, []), some (.getfield 85, 41, 0, 12, 10, []), none, none, some (.iconst (1), 42, 1, 0, 0, []), some (.iadd, 43, 0, 0, 0, []), some (.putfield 85, 46, 0, 12, 10, []), none, none, some (.aload_n 0, 47, 0, 0, 0, []), some (.getfield 85, 50, 0, 12, 10, []), none, none, some (.ireturn, 51, 0, 0, 0, [])]
-- LineOriginsModel.clear()I
def cd_123 : List (Option En) := [some (.aload_n 0, 1, 0, 0, 0, []), some (.getfield 85, 4, 0, 12, 10, []), none, none, some (.istore_n 1, 5, 0, 1, 0, []), some (.aload_n 0, 6, 0, 0, 0, []), some (.iconst (0), 7, 0, 0, 0, []), some (.putfield 85, 10, 0, 12, 10, []), none, none, some (.iload_n 1, 11, 0, 1, 0, []), some (.ireturn, 12, 0, 0, 0, [])]
-- LineOriginsModel.next()V
def cd_124 : List (Option En) := [some (.aload_n 0, 1, 0, 0, 0, []), some (.getfield 88, 4, 0, 12, 11, []), none, none, some (.aload_n 0, 5, 0, 0, 0, []), some (.getfield 85, 8, 0, 12, 10, []), none, none, some (.if_icmp .ge (30), 11, 0, 38, 0, []), none, none, some (.aload_n 0, 12, 0, 0, 0, []), some (.getfield 31, 15, 0, 12, 9, []), none, none, some (.aload_n 0, 16, 0, 0, 0, []), some (.getfield 88, 19, 0, 12, 11, []), none, none, some (.iaload, 20, 0, 0, 0, []), some (.bipush (32), 22, 32, 0, 0, []), none, some (.if_icmp .ne (16), 25, 0, 38, 0, []), none, none, some (.aload_n 0, 26, 0, 0, 0, []), some (.dup, 27, 0, 0, 0, []), some (.getfield 88, 30, 0, 12, 11, []), none, none, some (.iconst (1), 31, 1, 0, 0, []), some (.iadd, 32, 0, 0, 0, []), some (.putfield 88, 35, 0, 12, 11, []), none, none, some (.goto (-35), 38, 0, 0, 0, []), none, none, some (.aload_n 0, 39, 0, 0, 0, []), some (.aload_n 0, 40, 0, 0, 0, []), some (.getfield 88, 43, 0, 12, 11, []), none, none, some (.putfield 91, 46, 0, 12, 12, []), none, none, some (.aload_n 0, 47, 0, 0, 0, []), some (.getfield 88, 50, 0, 12, 11, []), none, none, some (.aload_n 0, 51, 0, 0, 0, []), some (.getfield 85, 54, 0, 12, 10, []), none, none, some (.if_icmp .ge (15), 57, 0, 69, 0, []), none, none, some (.aload_n 0, 58, 0, 0, 0, []), some (.getfield 31, 61, 0, 12, 9, []), none, none, some (.aload_n 0, 62, 0, 0, 0, []), some (.getfield 88, 65, 0, 12, 11, []), none, none, some (.iaload, 66, 0, 0, 0, []), some (.goto (4), 69, 0, 70, 0, []), none, none, some (.iconst (-1), 70, -1, 0, 0, []), some (.istore_n 1, 71, 0, 1, 0, []), some (.aload_n 0, 72, 0, 0, 0, []), some (.dup, 73, 0, 0, 0, []), some (.getfield 88, 76, 0, 12, 11, []), none, none, some (.iload_n 1, 77, 0, 1, 0, []), some (.ifCond .ge (7), 80, 0, 84, 0, []), none, none, some (.iconst (0), 81, 0, 0, 0, []), some (.goto (4), 84, 0, 85, 0, []), none, none, some (.iconst (1), 85, 1, 0, 0, []), some (.iadd, 86, 0, 0, 0, []), some (.putfield 88, 89, 0, 12, 11, []), none, none, some (.aload_n 0, 90, 0, 0, 0, []), some (.iload_n 1, 91, 0, 1, 0, []), some (.bipush (82), 93, 82, 0, 0, []), none, some (.if_icmp .eq (19), 96, 0, 112, 0, []), none, none, some (.iload_n 1, 97, 0, 1, 0, []), some (.bipush (58), 99, 58, 0, 0, []), none, some (.if_icmp .eq (13), 102, 0, 112, 0, []), none, none, some (.iload_n 1, 103, 0, 1, 0, []), some (.bipush (59), 105, 59, 0, 0, []), none, some (.if_icmp .eq (7), 108, 0, 112, 0, []), none, none, some (.iload_n 1, 109, 0, 1, 0, []), some (.ifCond .ge (7), 112, 0, 116, 0, []), none, none, some (.iload_n 1, 113, 0, 1, 0, []), some (.goto (5), 116, 0, 118, 0, []), none, none, some (.bipush (-2), 118, -2, 0, 0, []), none, some (.putfield 94, 121, 0, 12, 13, []), none, none, some (.aload_n 0, 122, 0, 0, 0, []), some (.bipush (-9), 124, -9, 0, 0, []), none, some (.putfield 97, 127, 0, 12, 14, []), none, none, some (.iload_n 1, 128, 0, 1, 0, []), some (.i2l, 129, 0, 0, 0, []), some (.ldc2_w 100, 132, 97, 0, 0, []), none, none, some (.ldc2_w 102, 135, 122, 0, 0, []), none, none, some (.invokestatic 75, 138, 0, 118, 4, []), none, none, some (.ifCond .eq (14), 141, 0, 152, 0, []), none, none, some (.aload_n 0, 142, 0, 0, 0, []), some (.bipush (97), 144, 97, 0, 0, []), none, some (.putfield 94, 147, 0, 12, 13, []), none, none, some (.aload_n 0, 148, 0, 0, 0, []), some (.iload_n 1, 149, 0, 1, 0, []), some (.putfield 97, 152, 0, 12, 14, []), none, none, some (.iload_n 1, 153, 0, 1, 0, []), some (.i2l, 154, 0, 0, 0, []), some (.ldc2_w 104, 157, 48, 0, 0, []), none, none, some (.ldc2_w 106, 160, 57, 0, 0, []), none, none, some (.invokestatic 75, 163, 0, 118, 4, []), none, none, some (.ifCond .eq (108), 166, 0, 271, 0, []), none, none, some (.aload_n 0, 167, 0, 0, 0, []), some (.bipush (48), 169, 48, 0, 0, []), none, some (.putfield 94, 172, 0, 12, 13, []), none, none, some (.aload_n 0, 173, 0, 0, 0, []), some (.iload_n 1, 174, 0, 1, 0, []), some (.bipush (48), 176, 48, 0, 0, []), none, some (.isub, 177, 0, 0, 0, []), some (.putfield 97, 180, 0, 12, 14, []), none, none, some (.aload_n 0, 181, 0, 0, 0, []), some (.getfield 88, 184, 0, 12, 11, []), none, none, some (.aload_n 0, 185, 0, 0, 0, []), some (.getfield 85, 188, 0, 12, 10, []), none, none, some (.if_icmp .ge (83), 191, 0, 271, 0, []), none, none, some (.aload_n 0, 192, 0, 0, 0, []), some (.getfield 31, 195, 0, 12, 9, []), none, none, some (.aload_n 0, 196, 0, 0, 0, []), some (.getfield 88, 199, 0, 12, 11, []), none, none, some (.iaload, 200, 0, 0, 0, []), some (.i2l, 201, 0, 0, 0, []), some (.ldc2_w 104, 204, 48, 0, 0, []), none, none, some (.ldc2_w 106, 207, 57, 0, 0, []), none, none, some (.invokestatic 75, 210, 0, 118, 4, []), none, none, some (.ifCond .eq (61), 213, 0, 271, 0, []), none, none, some (.aload_n 0, 214, 0, 0, 0, []), some (.iload_n 1, 215, 0, 1, 0, []), some (.bipush (48), 217, 48, 0, 0, []), none, some (.if_icmp .eq (12), 220, 0, 229, 0, []), none, none, some (.aload_n 0, 221, 0, 0, 0, []), some (.getfield 97, 224, 0, 12, 14, []), none, none, some (.bipush (99), 226, 99, 0, 0, []), none, some (.if_icmp .le (9), 229, 0, 235, 0, []), none, none, some (.sipush (1000), 232, 1000, 0, 0, []), none, none, some (.goto (23), 235, 0, 255, 0, []), none, none, some (.bipush (10), 237, 10, 0, 0, []), none, some (.aload_n 0, 238, 0, 0, 0, []), some (.getfield 97, 241, 0, 12, 14, []), none, none, some (.imul, 242, 0, 0, 0, []), some (.aload_n 0, 243, 0, 0, 0, []), some (.getfield 31, 246, 0, 12, 9, []), none, none, some (.aload_n 0, 247, 0, 0, 0, []), some (.getfield 88, 250, 0, 12, 11, []), none, none, some (.iaload, 251, 0, 0, 0, []), some (.iadd, 252, 0, 0, 0, []), some (.bipush (48), 254, 48, 0, 0, []), none, some (.isub, 255, 0, 0, 0, []), some (.putfield 97, 258, 0, 12, 14, []), none, none, some (.aload_n 0, 259, 0, 0, 0, []), some (.dup, 260, 0, 0, 0, []), some (.getfield 88, 263, 0, 12, 11, []), none, none, some (.iconst (1), 264, 1, 0, 0, []), some (.iadd, 265, 0, 0, 0, []), some (.putfield 88, 268, 0, 12, 11, []), none, none, some (.goto (-88), 271, 0, 180, 0, []), none, none, some (.return_, 272, 0, 0, 0, [])]
-- LineOriginsModel.faults()Z
def cd_125 : List (Option En) := [some (.aload_n 0, 1, 0, 0, 0, []), some (.aload_n 0, 2, 0, 0, 0, []), some (.getfield 91, 5, 0, 12, 12, []), none, none, some (.putfield 108, 8, 0, 12, 15, []), none, none, some (.iconst (0), 9, 0, 0, 0, []), some (.ireturn, 10, 0, 0, 0, [])]
-- LineOriginsModel.takesParents(I)Z
def cd_126 : List (Option En) := [some (.aload_n 0, 1, 0, 0, 0, []), some (.getfield 37, 4, 0, 12, 18, []), none, none, some (.iconst (2), 5, 2, 0, 0, []), some (.iload_n 1, 6, 0, 1, 0, []), some (.imul, 7, 0, 0, 0, []), some (.bipush (-9), 9, -9, 0, 0, []), none, some (.iastore, 10, 0, 0, 0, []), some (.aload_n 0, 11, 0, 0, 0, []), some (.getfield 37, 14, 0, 12, 18, []), none, none, some (.iconst (2), 15, 2, 0, 0, []), some (.iload_n 1, 16, 0, 1, 0, []), some (.imul, 17, 0, 0, 0, []), some (.iconst (1), 18, 1, 0, 0, []), some (.iadd, 19, 0, 0, 0, []), some (.bipush (-9), 21, -9, 0, 0, []), none, some (.iastore, 22, 0, 0, 0, []), some (.aload_n 0, 23, 0, 0, 0, []), some (.invokevirtual 111, 26, 0, 124, 3, []), none, none, some (.iconst (0), 27, 0, 0, 0, []), some (.istore_n 2, 28, 0, 2, 0, []), some (.iload_n 2, 29, 0, 2, 0, []), some (.iconst (2), 30, 2, 0, 0, []), some (.if_icmp .ge (69), 33, 0, 99, 0, []), none, none, some (.aload_n 0, 34, 0, 0, 0, []), some (.getfield 94, 37, 0, 12, 13, []), none, none, some (.bipush (48), 39, 48, 0, 0, []), none, some (.if_icmp .ne (60), 42, 0, 99, 0, []), none, none, some (.aload_n 0, 43, 0, 0, 0, []), some (.getfield 97, 46, 0, 12, 14, []), none, none, some (.iload_n 1, 47, 0, 1, 0, []), some (.if_icmp .ge (23), 50, 0, 70, 0, []), none, none, some (.iload_n 2, 51, 0, 2, 0, []), some (.iconst (1), 52, 1, 0, 0, []), some (.if_icmp .ne (23), 55, 0, 75, 0, []), none, none, some (.aload_n 0, 56, 0, 0, 0, []), some (.getfield 97, 59, 0, 12, 14, []), none, none, some (.aload_n 0, 60, 0, 0, 0, []), some (.getfield 37, 63, 0, 12, 18, []), none, none, some (.iconst (2), 64, 2, 0, 0, []), some (.iload_n 1, 65, 0, 1, 0, []), some (.imul, 66, 0, 0, 0, []), some (.iaload, 67, 0, 0, 0, []), some (.if_icmp .ne (8), 70, 0, 75, 0, []), none, none, some (.aload_n 0, 71, 0, 0, 0, []), some (.invokevirtual 114, 74, 0, 125, 3, []), none, none, some (.ireturn, 75, 0, 0, 0, []), some (.aload_n 0, 76, 0, 0, 0, []), some (.getfield 37, 79, 0, 12, 18, []), none, none, some (.iconst (2), 80, 2, 0, 0, []), some (.iload_n 1, 81, 0, 1, 0, []), some (.imul, 82, 0, 0, 0, []), some (.iload_n 2, 83, 0, 2, 0, []), some (.iadd, 84, 0, 0, 0, []), some (.aload_n 0, 85, 0, 0, 0, []), some (.getfield 97, 88, 0, 12, 14, []), none, none, some (.iastore, 89, 0, 0, 0, []), some (.aload_n 0, 90, 0, 0, 0, []), some (.invokevirtual 111, 93, 0, 124, 3, []), none, none, some (.iinc 2 (1), 96, 1, 2, 0, []), none, none, some (.goto (-68), 99, 0, 28, 0, []), none, none, some (.aload_n 0, 100, 0, 0, 0, []), some (.getfield 94, 103, 0, 12, 13, []), none, none, some (.bipush (58), 105, 58, 0, 0, []), none, some (.if_icmp .eq (10), 108, 0, 115, 0, []), none, none, some (.aload_n 0, 109, 0, 0, 0, []), some (.invokevirtual 114, 112, 0, 125, 3, []), none, none, some (.ifCond .eq (7), 115, 0, 119, 0, []), none, none, some (.iconst (1), 116, 1, 0, 0, []), some (.goto (4), 119, 0, 120, 0, []), none, none, some (.iconst (0), 120, 0, 0, 0, []), some (.ireturn, 121, 0, 0, 0, [])]
-- LineOriginsModel.takesItem()Z
def cd_127 : List (Option En) := [some (.aload_n 0, 1, 0, 0, 0, []), some (.getfield 118, 4, 0, 12, 16, []), none, none, some (.istore_n 1, 5, 0, 1, 0, []), some (.aload_n 0, 6, 0, 0, 0, []), some (.getfield 94, 9, 0, 12, 13, []), none, none, some (.bipush (82), 11, 82, 0, 0, []), none, some (.if_icmp .ne (9), 14, 0, 20, 0, []), none, none, some (.iload_n 1, 15, 0, 1, 0, []), some (.bipush (8), 17, 8, 0, 0, []), none, some (.if_icmp .ne (8), 20, 0, 25, 0, []), none, none, some (.aload_n 0, 21, 0, 0, 0, []), some (.invokevirtual 114, 24, 0, 125, 3, []), none, none, some (.ireturn, 25, 0, 0, 0, []), some (.aload_n 0, 26, 0, 0, 0, []), some (.iload_n 1, 27, 0, 1, 0, []), some (.invokevirtual 121, 30, 0, 126, 3, []), none, none, some (.ifCond .ne (5), 33, 0, 35, 0, []), none, none, some (.iconst (0), 34, 0, 0, 0, []), some (.ireturn, 35, 0, 0, 0, []), some (.aload_n 0, 36, 0, 0, 0, []), some (.dup, 37, 0, 0, 0, []), some (.getfield 118, 40, 0, 12, 16, []), none, none, some (.iconst (1), 41, 1, 0, 0, []), some (.iadd, 42, 0, 0, 0, []), some (.putfield 118, 45, 0, 12, 16, []), none, none, some (.aload_n 0, 46, 0, 0, 0, []), some (.getfield 34, 49, 0, 12, 17, []), none, none, some (.iload_n 1, 50, 0, 1, 0, []), some (.iconst (0), 51, 0, 0, 0, []), some (.iastore, 52, 0, 0, 0, []), some (.aload_n 0, 53, 0, 0, 0, []), some (.invokevirtual 111, 56, 0, 124, 3, []), none, none, some (.aload_n 0, 57, 0, 0, 0, []), some (.getfield 94, 60, 0, 12, 13, []), none, none, some (.bipush (97), 62, 97, 0, 0, []), none, some (.if_icmp .ne (51), 65, 0, 113, 0, []), none, none, some (.aload_n 0, 66, 0, 0, 0, []), some (.getfield 34, 69, 0, 12, 17, []), none, none, some (.iload_n 1, 70, 0, 1, 0, []), some (.iaload, 71, 0, 0, 0, []), some (.bipush (8), 73, 8, 0, 0, []), none, some (.if_icmp .ge (40), 76, 0, 113, 0, []), none, none, some (.aload_n 0, 77, 0, 0, 0, []), some (.getfield 40, 80, 0, 12, 19, []), none, none, some (.bipush (8), 82, 8, 0, 0, []), none, some (.iload_n 1, 83, 0, 1, 0, []), some (.imul, 84, 0, 0, 0, []), some (.aload_n 0, 85, 0, 0, 0, []), some (.getfield 34, 88, 0, 12, 17, []), none, none, some (.iload_n 1, 89, 0, 1, 0, []), some (.iaload, 90, 0, 0, 0, []), some (.iadd, 91, 0, 0, 0, []), some (.aload_n 0, 92, 0, 0, 0, []), some (.getfield 97, 95, 0, 12, 14, []), none, none, some (.iastore, 96, 0, 0, 0, []), some (.aload_n 0, 97, 0, 0, 0, []), some (.getfield 34, 100, 0, 12, 17, []), none, none, some (.iload_n 1, 101, 0, 1, 0, []), some (.dup2, 102, 0, 0, 0, []), some (.iaload, 103, 0, 0, 0, []), some (.iconst (1), 104, 1, 0, 0, []), some (.iadd, 105, 0, 0, 0, []), some (.iastore, 106, 0, 0, 0, []), some (.aload_n 0, 107, 0, 0, 0, []), some (.invokevirtual 111, 110, 0, 124, 3, []), none, none, some (.goto (-54), 113, 0, 56, 0, []), none, none, some (.aload_n 0, 114, 0, 0, 0, []), some (.getfield 94, 117, 0, 12, 13, []), none, none, some (.bipush (59), 119, 59, 0, 0, []), none, some (.if_icmp .eq (10), 122, 0, 129, 0, []), none, none, some (.aload_n 0, 123, 0, 0, 0, []), some (.invokevirtual 114, 126, 0, 125, 3, []), none, none, some (.ifCond .eq (7), 129, 0, 133, 0, []), none, none, some (.iconst (1), 130, 1, 0, 0, []), some (.goto (4), 133, 0, 134, 0, []), none, none, some (.iconst (0), 134, 0, 0, 0, []), some (.ireturn, 135, 0, 0, 0, [])]
-- LineOriginsModel.history()I
def cd_128 : List (Option En) := [some (.aload_n 0, 1, 0, 0, 0, []), some (.iconst (0), 2, 0, 0, 0, []), some (.putfield 88, 5, 0, 12, 11, []), none, none, some (.aload_n 0, 6, 0, 0, 0, []), some (.iconst (0), 7, 0, 0, 0, []), some (.putfield 118, 10, 0, 12, 16, []), none, none, some (.aload_n 0, 11, 0, 0, 0, []), some (.invokevirtual 111, 14, 0, 124, 3, []), none, none, some (.aload_n 0, 15, 0, 0, 0, []), some (.getfield 94, 18, 0, 12, 13, []), none, none, some (.iconst (-1), 19, -1, 0, 0, []), some (.if_icmp .eq (25), 22, 0, 44, 0, []), none, none, some (.aload_n 0, 23, 0, 0, 0, []), some (.invokevirtual 124, 26, 0, 127, 3, []), none, none, some (.ifCond .ne (11), 29, 0, 37, 0, []), none, none, some (.bipush (-10), 31, -10, 0, 0, []), none, some (.aload_n 0, 32, 0, 0, 0, []), some (.getfield 108, 35, 0, 12, 15, []), none, none, some (.isub, 36, 0, 0, 0, []), some (.ireturn, 37, 0, 0, 0, []), some (.aload_n 0, 38, 0, 0, 0, []), some (.invokevirtual 111, 41, 0, 124, 3, []), none, none, some (.goto (-27), 44, 0, 14, 0, []), none, none, some (.aload_n 0, 45, 0, 0, 0, []), some (.iconst (0), 46, 0, 0, 0, []), some (.putfield 85, 49, 0, 12, 10, []), none, none, some (.aload_n 0, 50, 0, 0, 0, []), some (.aload_n 0, 51, 0, 0, 0, []), some (.getfield 118, 54, 0, 12, 16, []), none, none, some (.putfield 72, 57, 0, 12, 0, []), none, none, some (.iconst (0), 58, 0, 0, 0, []), some (.istore_n 1, 59, 0, 1, 0, []), some (.iload_n 1, 60, 0, 1, 0, []), some (.bipush (8), 62, 8, 0, 0, []), none, some (.if_icmp .ge (57), 65, 0, 119, 0, []), none, none, some (.aload_n 0, 66, 0, 0, 0, []), some (.getfield 7, 69, 0, 12, 1, []), none, none, some (.iload_n 1, 70, 0, 1, 0, []), some (.aload_n 0, 71, 0, 0, 0, []), some (.getfield 34, 74, 0, 12, 17, []), none, none, some (.iload_n 1, 75, 0, 1, 0, []), some (.iaload, 76, 0, 0, 0, []), some (.iastore, 77, 0, 0, 0, []), some (.aload_n 0, 78, 0, 0, 0, []), some (.getfield 13, 81, 0, 12, 2, []), none, none, some (.iconst (2), 82, 2, 0, 0, []), some (.iload_n 1, 83, 0, 1, 0, []), some (.imul, 84, 0, 0, 0, []), some (.aload_n 0, 85, 0, 0, 0, []), some (.getfield 37, 88, 0, 12, 18, []), none, none, some (.iconst (2), 89, 2, 0, 0, []), some (.iload_n 1, 90, 0, 1, 0, []), some (.imul, 91, 0, 0, 0, []), some (.iaload, 92, 0, 0, 0, []), some (.iastore, 93, 0, 0, 0, []), some (.aload_n 0, 94, 0, 0, 0, []), some (.getfield 13, 97, 0, 12, 2, []), none, none, some (.iconst (2), 98, 2, 0, 0, []), some (.iload_n 1, 99, 0, 1, 0, []), some (.imul, 100, 0, 0, 0, []), some (.iconst (1), 101, 1, 0, 0, []), some (.iadd, 102, 0, 0, 0, []), some (.aload_n 0, 103, 0, 0, 0, []), some (.getfield 37, 106, 0, 12, 18, []), none, none, some (.iconst (2), 107, 2, 0, 0, []), some (.iload_n 1, 108, 0, 1, 0, []), some (.imul, 109, 0, 0, 0, []), some (.iconst (1), 110, 1, 0, 0, []), some (.iadd, 111, 0, 0, 0, []), some (.iaload, 112, 0, 0, 0, []), some (.iastore, 113, 0, 0, 0, []), some (.iinc 1 (1), 116, 1, 1, 0, []), none, none, some (.goto (-57), 119, 0, 59, 0, []), none, none, some (.iconst (0), 120, 0, 0, 0, []), some (.istore_n 1, 121, 0, 1, 0, []), some (.iload_n 1, 122, 0, 1, 0, []), some (.bipush (64), 124, 64, 0, 0, []), none, some (.if_icmp .ge (21), 127, 0, 145, 0, []), none, none, some (.aload_n 0, 128, 0, 0, 0, []), some (.getfield 16, 131, 0, 12, 3, []), none, none, some (.iload_n 1, 132, 0, 1, 0, []), some (.aload_n 0, 133, 0, 0, 0, []), some (.getfield 40, 136, 0, 12, 19, []), none, none, some (.iload_n 1, 137, 0, 1, 0, []), some (.iaload, 138, 0, 0, 0, []), some (.iastore, 139, 0, 0, 0, []), some (.iinc 1 (1), 142, 1, 1, 0, []), none, none, some (.goto (-21), 145, 0, 121, 0, []), none, none, some (.iconst (0), 146, 0, 0, 0, []), some (.istore_n 1, 147, 0, 1, 0, []), some (.iload_n 1, 148, 0, 1, 0, []), some (.aload_n 0, 149, 0, 0, 0, []), some (.getfield 72, 152, 0, 12, 0, []), none, none, some (.if_icmp .ge (21), 155, 0, 173, 0, []), none, none, some (.aload_n 0, 156, 0, 0, 0, []), some (.iload_n 1, 157, 0, 1, 0, []), some (.iconst (0), 158, 0, 0, 0, []), some (.invokevirtual 127, 161, 0, 131, 3, []), none, none, some (.aload_n 0, 162, 0, 0, 0, []), some (.iload_n 1, 163, 0, 1, 0, []), some (.iconst (1), 164, 1, 0, 0, []), some (.invokevirtual 127, 167, 0, 131, 3, []), none, none, some (.iinc 1 (1), 170, 1, 1, 0, []), none, none, some (.goto (-23), 173, 0, 147, 0, []), none, none, some (.aload_n 0, 174, 0, 0, 0, []), some (.invokevirtual 62, 177, 0, 117, 3, []), none, none, some (.aload_n 0, 178, 0, 0, 0, []), some (.getfield 72, 181, 0, 12, 0, []), none, none, some (.ireturn, 182, 0, 0, 0, [])]
-- LineOriginsModel.letterOf(II)I
def cd_129 : List (Option En) := [some (.aload_n 0, 1, 0, 0, 0, []), some (.getfield 16, 4, 0, 12, 3, []), none, none, some (.bipush (8), 6, 8, 0, 0, []), none, some (.iload_n 1, 7, 0, 1, 0, []), some (.imul, 8, 0, 0, 0, []), some (.iload_n 2, 9, 0, 2, 0, []), some (.iadd, 10, 0, 0, 0, []), some (.iaload, 11, 0, 0, 0, []), some (.ireturn, 12, 0, 0, 0, [])]
-- LineOriginsModel.layCommon(II)V
def cd_130 : List (Option En) := [some (.aload_n 0, 1, 0, 0, 0, []), some (.getfield 7, 4, 0, 12, 1, []), none, none, some (.iload_n 1, 5, 0, 1, 0, []), some (.iaload, 6, 0, 0, 0, []), some (.istore_n 3, 7, 0, 3, 0, []), some (.iload_n 3, 8, 0, 3, 0, []), some (.ifCond .lt (168), 11, 0, 176, 0, []), none, none, some (.aload_n 0, 12, 0, 0, 0, []), some (.getfield 7, 15, 0, 12, 1, []), none, none, some (.iload_n 2, 16, 0, 2, 0, []), some (.iaload, 17, 0, 0, 0, []), some (.istore 4, 19, 0, 4, 0, []), none, some (.iload 4, 21, 0, 4, 0, []), none, some (.ifCond .lt (149), 24, 0, 170, 0, []), none, none, some (.iconst (0), 25, 0, 0, 0, []), some (.istore 5, 27, 0, 5, 0, []), none, some (.iload_n 3, 28, 0, 3, 0, []), some (.aload_n 0, 29, 0, 0, 0, []), some (.getfield 7, 32, 0, 12, 1, []), none, none, some (.iload_n 1, 33, 0, 1, 0, []), some (.iaload, 34, 0, 0, 0, []), some (.if_icmp .ge (116), 37, 0, 150, 0, []), none, none, some (.iload 4, 39, 0, 4, 0, []), none, some (.aload_n 0, 40, 0, 0, 0, []), some (.getfield 7, 43, 0, 12, 1, []), none, none, some (.iload_n 2, 44, 0, 2, 0, []), some (.iaload, 45, 0, 0, 0, []), some (.if_icmp .ge (105), 48, 0, 150, 0, []), none, none, some (.aload_n 0, 49, 0, 0, 0, []), some (.getfield 43, 52, 0, 12, 20, []), none, none, some (.bipush (9), 54, 9, 0, 0, []), none, some (.iload_n 3, 55, 0, 3, 0, []), some (.imul, 56, 0, 0, 0, []), some (.bipush (9), 58, 9, 0, 0, []), none, some (.iadd, 59, 0, 0, 0, []), some (.iload 4, 61, 0, 4, 0, []), none, some (.iadd, 62, 0, 0, 0, []), some (.iaload, 63, 0, 0, 0, []), some (.istore 6, 65, 0, 6, 0, []), none, some (.aload_n 0, 66, 0, 0, 0, []), some (.getfield 43, 69, 0, 12, 20, []), none, none, some (.bipush (9), 71, 9, 0, 0, []), none, some (.iload_n 3, 72, 0, 3, 0, []), some (.imul, 73, 0, 0, 0, []), some (.iload 4, 75, 0, 4, 0, []), none, some (.iadd, 76, 0, 0, 0, []), some (.iconst (1), 77, 1, 0, 0, []), some (.iadd, 78, 0, 0, 0, []), some (.iaload, 79, 0, 0, 0, []), some (.istore 7, 81, 0, 7, 0, []), none, some (.iload 6, 83, 0, 6, 0, []), none, some (.iload 7, 85, 0, 7, 0, []), none, some (.if_icmp .le (8), 88, 0, 93, 0, []), none, none, some (.iload 6, 90, 0, 6, 0, []), none, some (.goto (5), 93, 0, 95, 0, []), none, none, some (.iload 7, 95, 0, 7, 0, []), none, some (.istore 5, 97, 0, 5, 0, []), none, some (.aload_n 0, 98, 0, 0, 0, []), some (.getfield 43, 101, 0, 12, 20, []), none, none, some (.bipush (9), 103, 9, 0, 0, []), none, some (.iload_n 3, 104, 0, 3, 0, []), some (.imul, 105, 0, 0, 0, []), some (.bipush (9), 107, 9, 0, 0, []), none, some (.iadd, 108, 0, 0, 0, []), some (.iload 4, 110, 0, 4, 0, []), none, some (.iadd, 111, 0, 0, 0, []), some (.iconst (1), 112, 1, 0, 0, []), some (.iadd, 113, 0, 0, 0, []), some (.iaload, 114, 0, 0, 0, []), some (.iconst (1), 115, 1, 0, 0, []), some (.iadd, 116, 0, 0, 0, []), some (.istore 8, 118, 0, 8, 0, []), none, some (.aload_n 0, 119, 0, 0, 0, []), some (.iload_n 1, 120, 0, 1, 0, []), some (.iload_n 3, 121, 0, 3, 0, []), some (.invokevirtual 131, 124, 0, 129, 3, []), none, none, some (.aload_n 0, 125, 0, 0, 0, []), some (.iload_n 2, 126, 0, 2, 0, []), some (.iload 4, 128, 0, 4, 0, []), none, some (.invokevirtual 131, 131, 0, 129, 3, []), none, none, some (.if_icmp .ne (15), 134, 0, 146, 0, []), none, none, some (.iload 8, 136, 0, 8, 0, []), none, some (.iload 5, 138, 0, 5, 0, []), none, some (.if_icmp .le (8), 141, 0, 146, 0, []), none, none, some (.iload 8, 143, 0, 8, 0, []), none, some (.goto (5), 146, 0, 148, 0, []), none, none, some (.iload 5, 148, 0, 5, 0, []), none, some (.istore 5, 150, 0, 5, 0, []), none, some (.aload_n 0, 151, 0, 0, 0, []), some (.getfield 43, 154, 0, 12, 20, []), none, none, some (.bipush (9), 156, 9, 0, 0, []), none, some (.iload_n 3, 157, 0, 3, 0, []), some (.imul, 158, 0, 0, 0, []), some (.iload 4, 160, 0, 4, 0, []), none, some (.iadd, 161, 0, 0, 0, []), some (.iload 5, 163, 0, 5, 0, []), none, some (.iastore, 164, 0, 0, 0, []), some (.iinc 4 (-1), 167, -1, 4, 0, []), none, none, some (.goto (-148), 170, 0, 19, 0, []), none, none, some (.iinc 3 (-1), 173, -1, 3, 0, []), none, none, some (.goto (-166), 176, 0, 7, 0, []), none, none, some (.return_, 177, 0, 0, 0, [])]
-- LineOriginsModel.layPairs(II)V
def cd_131 : List (Option En) := [some (.iconst (0), 1, 0, 0, 0, []), some (.istore_n 3, 2, 0, 3, 0, []), some (.iload_n 3, 3, 0, 3, 0, []), some (.bipush (8), 5, 8, 0, 0, []), none, some (.if_icmp .ge (57), 8, 0, 62, 0, []), none, none, some (.aload_n 0, 9, 0, 0, 0, []), some (.getfield 19, 12, 0, 12, 4, []), none, none, some (.bipush (16), 14, 16, 0, 0, []), none, some (.iload_n 1, 15, 0, 1, 0, []), some (.imul, 16, 0, 0, 0, []), some (.bipush (8), 18, 8, 0, 0, []), none, some (.iload_n 2, 19, 0, 2, 0, []), some (.imul, 20, 0, 0, 0, []), some (.iadd, 21, 0, 0, 0, []), some (.iload_n 3, 22, 0, 3, 0, []), some (.iadd, 23, 0, 0, 0, []), some (.bipush (-9), 25, -9, 0, 0, []), none, some (.iastore, 26, 0, 0, 0, []), some (.aload_n 0, 27, 0, 0, 0, []), some (.getfield 22, 30, 0, 12, 5, []), none, none, some (.bipush (8), 32, 8, 0, 0, []), none, some (.iload_n 1, 33, 0, 1, 0, []), some (.imul, 34, 0, 0, 0, []), some (.iload_n 3, 35, 0, 3, 0, []), some (.iadd, 36, 0, 0, 0, []), some (.iload_n 2, 37, 0, 2, 0, []), some (.ifCond .ne (7), 40, 0, 44, 0, []), none, none, some (.iconst (0), 41, 0, 0, 0, []), some (.goto (14), 44, 0, 55, 0, []), none, none, some (.aload_n 0, 45, 0, 0, 0, []), some (.getfield 22, 48, 0, 12, 5, []), none, none, some (.bipush (8), 50, 8, 0, 0, []), none, some (.iload_n 1, 51, 0, 1, 0, []), some (.imul, 52, 0, 0, 0, []), some (.iload_n 3, 53, 0, 3, 0, []), some (.iadd, 54, 0, 0, 0, []), some (.iaload, 55, 0, 0, 0, []), some (.iastore, 56, 0, 0, 0, []), some (.iinc 3 (1), 59, 1, 3, 0, []), none, none, some (.goto (-57), 62, 0, 2, 0, []), none, none, some (.aload_n 0, 63, 0, 0, 0, []), some (.getfield 13, 66, 0, 12, 2, []), none, none, some (.iconst (2), 67, 2, 0, 0, []), some (.iload_n 1, 68, 0, 1, 0, []), some (.imul, 69, 0, 0, 0, []), some (.iload_n 2, 70, 0, 2, 0, []), some (.iadd, 71, 0, 0, 0, []), some (.iaload, 72, 0, 0, 0, []), some (.istore_n 3, 73, 0, 3, 0, []), some (.iload_n 3, 74, 0, 3, 0, []), some (.ifCond .ge (4), 77, 0, 78, 0, []), none, none, some (.return_, 78, 0, 0, 0, []), some (.aload_n 0, 79, 0, 0, 0, []), some (.iload_n 3, 80, 0, 3, 0, []), some (.iload_n 1, 81, 0, 1, 0, []), some (.invokevirtual 135, 84, 0, 130, 3, []), none, none, some (.iconst (0), 85, 0, 0, 0, []), some (.istore 4, 87, 0, 4, 0, []), none, some (.iconst (0), 88, 0, 0, 0, []), some (.istore 5, 90, 0, 5, 0, []), none, some (.iload 4, 92, 0, 4, 0, []), none, some (.aload_n 0, 93, 0, 0, 0, []), some (.getfield 7, 96, 0, 12, 1, []), none, none, some (.iload_n 3, 97, 0, 3, 0, []), some (.iaload, 98, 0, 0, 0, []), some (.if_icmp .ge (158), 101, 0, 256, 0, []), none, none, some (.iload 5, 103, 0, 5, 0, []), none, some (.aload_n 0, 104, 0, 0, 0, []), some (.getfield 7, 107, 0, 12, 1, []), none, none, some (.iload_n 1, 108, 0, 1, 0, []), some (.iaload, 109, 0, 0, 0, []), some (.if_icmp .ge (147), 112, 0, 256, 0, []), none, none, some (.aload_n 0, 113, 0, 0, 0, []), some (.iload_n 3, 114, 0, 3, 0, []), some (.iload 4, 116, 0, 4, 0, []), none, some (.invokevirtual 131, 119, 0, 129, 3, []), none, none, some (.aload_n 0, 120, 0, 0, 0, []), some (.iload_n 1, 121, 0, 1, 0, []), some (.iload 5, 123, 0, 5, 0, []), none, some (.invokevirtual 131, 126, 0, 129, 3, []), none, none, some (.if_icmp .ne (84), 129, 0, 210, 0, []), none, none, some (.aload_n 0, 130, 0, 0, 0, []), some (.getfield 43, 133, 0, 12, 20, []), none, none, some (.bipush (9), 135, 9, 0, 0, []), none, some (.iload 4, 137, 0, 4, 0, []), none, some (.imul, 138, 0, 0, 0, []), some (.iload 5, 140, 0, 5, 0, []), none, some (.iadd, 141, 0, 0, 0, []), some (.iaload, 142, 0, 0, 0, []), some (.aload_n 0, 143, 0, 0, 0, []), some (.getfield 43, 146, 0, 12, 20, []), none, none, some (.bipush (9), 148, 9, 0, 0, []), none, some (.iload 4, 150, 0, 4, 0, []), none, some (.imul, 151, 0, 0, 0, []), some (.bipush (9), 153, 9, 0, 0, []), none, some (.iadd, 154, 0, 0, 0, []), some (.iload 5, 156, 0, 5, 0, []), none, some (.iadd, 157, 0, 0, 0, []), some (.iconst (1), 158, 1, 0, 0, []), some (.iadd, 159, 0, 0, 0, []), some (.iaload, 160, 0, 0, 0, []), some (.iconst (1), 161, 1, 0, 0, []), some (.iadd, 162, 0, 0, 0, []), some (.if_icmp .ne (48), 165, 0, 210, 0, []), none, none, some (.aload_n 0, 166, 0, 0, 0, []), some (.getfield 19, 169, 0, 12, 4, []), none, none, some (.bipush (16), 171, 16, 0, 0, []), none, some (.iload_n 1, 172, 0, 1, 0, []), some (.imul, 173, 0, 0, 0, []), some (.bipush (8), 175, 8, 0, 0, []), none, some (.iload_n 2, 176, 0, 2, 0, []), some (.imul, 177, 0, 0, 0, []), some (.iadd, 178, 0, 0, 0, []), some (.iload 5, 180, 0, 5, 0, []), none, some (.iadd, 181, 0, 0, 0, []), some (.iload 4, 183, 0, 4, 0, []), none, some (.iastore, 184, 0, 0, 0, []), some (.iload_n 2, 185, 0, 2, 0, []), some (.ifCond .ne (16), 188, 0, 201, 0, []), none, none, some (.aload_n 0, 189, 0, 0, 0, []), some (.getfield 22, 192, 0, 12, 5, []), none, none, some (.bipush (8), 194, 8, 0, 0, []), none, some (.iload_n 1, 195, 0, 1, 0, []), some (.imul, 196, 0, 0, 0, []), some (.iload 4, 198, 0, 4, 0, []), none, some (.iadd, 199, 0, 0, 0, []), some (.iconst (1), 200, 1, 0, 0, []), some (.iastore, 201, 0, 0, 0, []), some (.iinc 4 (1), 204, 1, 4, 0, []), none, none, some (.iinc 5 (1), 207, 1, 5, 0, []), none, none, some (.goto (-117), 210, 0, 90, 0, []), none, none, some (.aload_n 0, 211, 0, 0, 0, []), some (.getfield 43, 214, 0, 12, 20, []), none, none, some (.bipush (9), 216, 9, 0, 0, []), none, some (.iload 4, 218, 0, 4, 0, []), none, some (.imul, 219, 0, 0, 0, []), some (.bipush (9), 221, 9, 0, 0, []), none, some (.iadd, 222, 0, 0, 0, []), some (.iload 5, 224, 0, 5, 0, []), none, some (.iadd, 225, 0, 0, 0, []), some (.iaload, 226, 0, 0, 0, []), some (.aload_n 0, 227, 0, 0, 0, []), some (.getfield 43, 230, 0, 12, 20, []), none, none, some (.bipush (9), 232, 9, 0, 0, []), none, some (.iload 4, 234, 0, 4, 0, []), none, some (.imul, 235, 0, 0, 0, []), some (.iload 5, 237, 0, 5, 0, []), none, some (.iadd, 238, 0, 0, 0, []), some (.iconst (1), 239, 1, 0, 0, []), some (.iadd, 240, 0, 0, 0, []), some (.iaload, 241, 0, 0, 0, []), some (.if_icmp .lt (9), 244, 0, 250, 0, []), none, none, some (.iinc 4 (1), 247, 1, 4, 0, []), none, none, some (.goto (-157), 250, 0, 90, 0, []), none, none, some (.iinc 5 (1), 253, 1, 5, 0, []), none, none, some (.goto (-163), 256, 0, 90, 0, []), none, none, some (.return_, 257, 0, 0, 0, [])]
-- LineOriginsModel.pairOf(III)I
def cd_132 : List (Option En) := [some (.aload_n 0, 1, 0, 0, 0, []), some (.getfield 19, 4, 0, 12, 4, []), none, none, some (.bipush (16), 6, 16, 0, 0, []), none, some (.iload_n 1, 7, 0, 1, 0, []), some (.imul, 8, 0, 0, 0, []), some (.bipush (8), 10, 8, 0, 0, []), none, some (.iload_n 3, 11, 0, 3, 0, []), some (.imul, 12, 0, 0, 0, []), some (.iadd, 13, 0, 0, 0, []), some (.iload_n 2, 14, 0, 2, 0, []), some (.iadd, 15, 0, 0, 0, []), some (.iaload, 16, 0, 0, 0, []), some (.ireturn, 17, 0, 0, 0, [])]
-- LineOriginsModel.rowFrom(IIII)I
def cd_133 : List (Option En) := [some (.iconst (0), 1, 0, 0, 0, []), some (.istore 5, 3, 0, 5, 0, []), none, some (.iload 4, 5, 0, 4, 0, []), none, some (.iload 5, 7, 0, 5, 0, []), none, some (.iadd, 8, 0, 0, 0, []), some (.aload_n 0, 9, 0, 0, 0, []), some (.getfield 7, 12, 0, 12, 1, []), none, none, some (.iload_n 2, 13, 0, 2, 0, []), some (.iaload, 14, 0, 0, 0, []), some (.if_icmp .ge (75), 17, 0, 89, 0, []), none, none, some (.iload_n 3, 18, 0, 3, 0, []), some (.iload 5, 20, 0, 5, 0, []), none, some (.iadd, 21, 0, 0, 0, []), some (.aload_n 0, 22, 0, 0, 0, []), some (.getfield 7, 25, 0, 12, 1, []), none, none, some (.iload_n 1, 26, 0, 1, 0, []), some (.iaload, 27, 0, 0, 0, []), some (.if_icmp .ge (62), 30, 0, 89, 0, []), none, none, some (.aload_n 0, 31, 0, 0, 0, []), some (.getfield 22, 34, 0, 12, 5, []), none, none, some (.bipush (8), 36, 8, 0, 0, []), none, some (.iload_n 1, 37, 0, 1, 0, []), some (.imul, 38, 0, 0, 0, []), some (.iload 4, 40, 0, 4, 0, []), none, some (.iadd, 41, 0, 0, 0, []), some (.iload 5, 43, 0, 5, 0, []), none, some (.iadd, 44, 0, 0, 0, []), some (.iaload, 45, 0, 0, 0, []), some (.ifCond .ne (44), 48, 0, 89, 0, []), none, none, some (.aload_n 0, 49, 0, 0, 0, []), some (.iload_n 1, 50, 0, 1, 0, []), some (.iload_n 3, 51, 0, 3, 0, []), some (.iload 5, 53, 0, 5, 0, []), none, some (.iadd, 54, 0, 0, 0, []), some (.iconst (0), 55, 0, 0, 0, []), some (.invokevirtual 138, 58, 0, 132, 3, []), none, none, some (.ifCond .ge (31), 61, 0, 89, 0, []), none, none, some (.aload_n 0, 62, 0, 0, 0, []), some (.iload_n 2, 63, 0, 2, 0, []), some (.iload 4, 65, 0, 4, 0, []), none, some (.iload 5, 67, 0, 5, 0, []), none, some (.iadd, 68, 0, 0, 0, []), some (.invokevirtual 131, 71, 0, 129, 3, []), none, none, some (.aload_n 0, 72, 0, 0, 0, []), some (.iload_n 1, 73, 0, 1, 0, []), some (.iload_n 3, 74, 0, 3, 0, []), some (.iload 5, 76, 0, 5, 0, []), none, some (.iadd, 77, 0, 0, 0, []), some (.invokevirtual 131, 80, 0, 129, 3, []), none, none, some (.if_icmp .ne (9), 83, 0, 89, 0, []), none, none, some (.iinc 5 (1), 86, 1, 5, 0, []), none, none, some (.goto (-83), 89, 0, 3, 0, []), none, none, some (.iload 5, 91, 0, 5, 0, []), none, some (.ireturn, 92, 0, 0, 0, [])]
-- LineOriginsModel.movedOf(II)I
def cd_134 : List (Option En) := [some (.aload_n 0, 1, 0, 0, 0, []), some (.getfield 13, 4, 0, 12, 2, []), none, none, some (.iconst (2), 5, 2, 0, 0, []), some (.iload_n 1, 6, 0, 1, 0, []), some (.imul, 7, 0, 0, 0, []), some (.iaload, 8, 0, 0, 0, []), some (.istore_n 3, 9, 0, 3, 0, []), some (.aload_n 0, 10, 0, 0, 0, []), some (.getfield 25, 13, 0, 12, 6, []), none, none, some (.iconst (0), 14, 0, 0, 0, []), some (.iaload, 15, 0, 0, 0, []), some (.ifCond .eq (13), 18, 0, 28, 0, []), none, none, some (.aload_n 0, 19, 0, 0, 0, []), some (.iload_n 1, 20, 0, 1, 0, []), some (.iload_n 2, 21, 0, 2, 0, []), some (.iconst (0), 22, 0, 0, 0, []), some (.invokevirtual 138, 25, 0, 132, 3, []), none, none, some (.ifCond .lt (6), 28, 0, 31, 0, []), none, none, some (.bipush (-9), 30, -9, 0, 0, []), none, some (.ireturn, 31, 0, 0, 0, []), some (.bipush (-9), 33, -9, 0, 0, []), none, some (.istore 4, 35, 0, 4, 0, []), none, some (.aload_n 0, 36, 0, 0, 0, []), some (.getfield 25, 39, 0, 12, 6, []), none, none, some (.iconst (0), 40, 0, 0, 0, []), some (.iaload, 41, 0, 0, 0, []), some (.iconst (1), 42, 1, 0, 0, []), some (.isub, 43, 0, 0, 0, []), some (.istore 5, 45, 0, 5, 0, []), none, some (.iconst (0), 46, 0, 0, 0, []), some (.istore 6, 48, 0, 6, 0, []), none, some (.iload 6, 50, 0, 6, 0, []), none, some (.aload_n 0, 51, 0, 0, 0, []), some (.getfield 7, 54, 0, 12, 1, []), none, none, some (.iload_n 3, 55, 0, 3, 0, []), some (.iaload, 56, 0, 0, 0, []), some (.if_icmp .ge (65), 59, 0, 121, 0, []), none, none, some (.iconst (0), 60, 0, 0, 0, []), some (.istore 7, 62, 0, 7, 0, []), none, some (.iload 7, 64, 0, 7, 0, []), none, some (.iload_n 2, 65, 0, 2, 0, []), some (.if_icmp .gt (50), 68, 0, 115, 0, []), none, none, some (.aload_n 0, 69, 0, 0, 0, []), some (.iload_n 1, 70, 0, 1, 0, []), some (.iload_n 3, 71, 0, 3, 0, []), some (.iload 7, 73, 0, 7, 0, []), none, some (.iload 6, 75, 0, 6, 0, []), none, some (.invokevirtual 142, 78, 0, 133, 3, []), none, none, some (.istore 8, 80, 0, 8, 0, []), none, some (.iload 7, 82, 0, 7, 0, []), none, some (.iload 8, 84, 0, 8, 0, []), none, some (.iadd, 85, 0, 0, 0, []), some (.iload_n 2, 86, 0, 2, 0, []), some (.if_icmp .le (23), 89, 0, 109, 0, []), none, none, some (.iload 8, 91, 0, 8, 0, []), none, some (.iload 5, 93, 0, 5, 0, []), none, some (.if_icmp .le (16), 96, 0, 109, 0, []), none, none, some (.iload 8, 98, 0, 8, 0, []), none, some (.istore 5, 100, 0, 5, 0, []), none, some (.iload 6, 102, 0, 6, 0, []), none, some (.iload_n 2, 103, 0, 2, 0, []), some (.iadd, 104, 0, 0, 0, []), some (.iload 7, 106, 0, 7, 0, []), none, some (.isub, 107, 0, 0, 0, []), some (.istore 4, 109, 0, 4, 0, []), none, some (.iinc 7 (1), 112, 1, 7, 0, []), none, none, some (.goto (-50), 115, 0, 62, 0, []), none, none, some (.iinc 6 (1), 118, 1, 6, 0, []), none, none, some (.goto (-70), 121, 0, 48, 0, []), none, none, some (.iload 4, 123, 0, 4, 0, []), none, some (.ireturn, 124, 0, 0, 0, [])]
-- LineOriginsModel.passedOf(II)I
def cd_135 : List (Option En) := [some (.aload_n 0, 1, 0, 0, 0, []), some (.getfield 13, 4, 0, 12, 2, []), none, none, some (.iconst (2), 5, 2, 0, 0, []), some (.iload_n 1, 6, 0, 1, 0, []), some (.imul, 7, 0, 0, 0, []), some (.iaload, 8, 0, 0, 0, []), some (.istore_n 3, 9, 0, 3, 0, []), some (.aload_n 0, 10, 0, 0, 0, []), some (.getfield 25, 13, 0, 12, 6, []), none, none, some (.iconst (1), 14, 1, 0, 0, []), some (.iaload, 15, 0, 0, 0, []), some (.iload_n 1, 16, 0, 1, 0, []), some (.invokestatic 146, 19, 0, 119, 4, []), none, none, some (.ifCond .ne (6), 22, 0, 25, 0, []), none, none, some (.bipush (-9), 24, -9, 0, 0, []), none, some (.ireturn, 25, 0, 0, 0, []), some (.iload_n 2, 26, 0, 2, 0, []), some (.iconst (1), 27, 1, 0, 0, []), some (.isub, 28, 0, 0, 0, []), some (.istore 4, 30, 0, 4, 0, []), none, some (.iload 4, 32, 0, 4, 0, []), none, some (.ifCond .lt (20), 35, 0, 52, 0, []), none, none, some (.aload_n 0, 36, 0, 0, 0, []), some (.iload_n 1, 37, 0, 1, 0, []), some (.iload 4, 39, 0, 4, 0, []), none, some (.iconst (0), 40, 0, 0, 0, []), some (.invokevirtual 138, 43, 0, 132, 3, []), none, none, some (.ifCond .ge (9), 46, 0, 52, 0, []), none, none, some (.iinc 4 (-1), 49, -1, 4, 0, []), none, none, some (.goto (-19), 52, 0, 30, 0, []), none, none, some (.iload 4, 54, 0, 4, 0, []), none, some (.ifCond .ge (7), 57, 0, 61, 0, []), none, none, some (.iconst (-1), 58, -1, 0, 0, []), some (.goto (11), 61, 0, 69, 0, []), none, none, some (.aload_n 0, 62, 0, 0, 0, []), some (.iload_n 1, 63, 0, 1, 0, []), some (.iload 4, 65, 0, 4, 0, []), none, some (.iconst (0), 66, 0, 0, 0, []), some (.invokevirtual 138, 69, 0, 132, 3, []), none, none, some (.istore 5, 71, 0, 5, 0, []), none, some (.iload 5, 73, 0, 5, 0, []), none, some (.iload_n 2, 74, 0, 2, 0, []), some (.iadd, 75, 0, 0, 0, []), some (.iload 4, 77, 0, 4, 0, []), none, some (.isub, 78, 0, 0, 0, []), some (.istore 6, 80, 0, 6, 0, []), none, some (.iload 6, 82, 0, 6, 0, []), none, some (.aload_n 0, 83, 0, 0, 0, []), some (.getfield 7, 86, 0, 12, 1, []), none, none, some (.iload_n 3, 87, 0, 3, 0, []), some (.iaload, 88, 0, 0, 0, []), some (.if_icmp .ge (7), 91, 0, 95, 0, []), none, none, some (.iconst (1), 92, 1, 0, 0, []), some (.goto (4), 95, 0, 96, 0, []), none, none, some (.iconst (0), 96, 0, 0, 0, []), some (.istore 7, 98, 0, 7, 0, []), none, some (.iload 5, 100, 0, 5, 0, []), none, some (.iconst (1), 101, 1, 0, 0, []), some (.iadd, 102, 0, 0, 0, []), some (.istore 8, 104, 0, 8, 0, []), none, some (.iload 8, 106, 0, 8, 0, []), none, some (.iload 6, 108, 0, 6, 0, []), none, some (.if_icmp .gt (36), 111, 0, 144, 0, []), none, none, some (.iload 7, 113, 0, 7, 0, []), none, some (.ifCond .eq (31), 116, 0, 144, 0, []), none, none, some (.aload_n 0, 117, 0, 0, 0, []), some (.getfield 22, 120, 0, 12, 5, []), none, none, some (.bipush (8), 122, 8, 0, 0, []), none, some (.iload_n 1, 123, 0, 1, 0, []), some (.imul, 124, 0, 0, 0, []), some (.iload 8, 126, 0, 8, 0, []), none, some (.iadd, 127, 0, 0, 0, []), some (.iaload, 128, 0, 0, 0, []), some (.ifCond .ne (7), 131, 0, 135, 0, []), none, none, some (.iconst (1), 132, 1, 0, 0, []), some (.goto (4), 135, 0, 136, 0, []), none, none, some (.iconst (0), 136, 0, 0, 0, []), some (.istore 7, 138, 0, 7, 0, []), none, some (.iinc 8 (1), 141, 1, 8, 0, []), none, none, some (.goto (-37), 144, 0, 104, 0, []), none, none, some (.iload 7, 146, 0, 7, 0, []), none, some (.ifCond .eq (8), 149, 0, 154, 0, []), none, none, some (.iload 6, 151, 0, 6, 0, []), none, some (.goto (5), 154, 0, 156, 0, []), none, none, some (.bipush (-9), 156, -9, 0, 0, []), none, some (.ireturn, 157, 0, 0, 0, [])]
-- LineOriginsModel.givenBy(III)I
def cd_136 : List (Option En) := [some (.aload_n 0, 1, 0, 0, 0, []), some (.getfield 13, 4, 0, 12, 2, []), none, none, some (.iconst (2), 5, 2, 0, 0, []), some (.iload_n 2, 6, 0, 2, 0, []), some (.imul, 7, 0, 0, 0, []), some (.iaload, 8, 0, 0, 0, []), some (.ifCond .ge (6), 11, 0, 14, 0, []), none, none, some (.bipush (-9), 13, -9, 0, 0, []), none, some (.ireturn, 14, 0, 0, 0, []), some (.iload_n 1, 15, 0, 1, 0, []), some (.tableswitch (66) (0) (2) #[25, 33, 59], 40, 0, 0, 0, [81, 40, 48, 74]), none, none, none, none, none, none, none, none, none, none, none, none, none, none, none, none, none, none, none, none, none, none, none, none, some (.aload_n 0, 41, 0, 0, 0, []), some (.iload_n 2, 42, 0, 2, 0, []), some (.iload_n 3, 43, 0, 3, 0, []), some (.iconst (0), 44, 0, 0, 0, []), some (.invokevirtual 138, 47, 0, 132, 3, []), none, none, some (.ireturn, 48, 0, 0, 0, []), some (.aload_n 0, 49, 0, 0, 0, []), some (.iload_n 2, 50, 0, 2, 0, []), some (.iload_n 3, 51, 0, 3, 0, []), some (.iconst (1), 52, 1, 0, 0, []), some (.invokevirtual 138, 55, 0, 132, 3, []), none, none, some (.ifCond .ge (8), 58, 0, 63, 0, []), none, none, some (.bipush (-9), 60, -9, 0, 0, []), none, some (.goto (13), 63, 0, 73, 0, []), none, none, some (.bipush (8), 65, 8, 0, 0, []), none, some (.aload_n 0, 66, 0, 0, 0, []), some (.iload_n 2, 67, 0, 2, 0, []), some (.iload_n 3, 68, 0, 3, 0, []), some (.iconst (1), 69, 1, 0, 0, []), some (.invokevirtual 138, 72, 0, 132, 3, []), none, none, some (.iadd, 73, 0, 0, 0, []), some (.ireturn, 74, 0, 0, 0, []), some (.aload_n 0, 75, 0, 0, 0, []), some (.iload_n 2, 76, 0, 2, 0, []), some (.iload_n 3, 77, 0, 3, 0, []), some (.invokevirtual 150, 80, 0, 134, 3, []), none, none, some (.ireturn, 81, 0, 0, 0, []), some (.aload_n 0, 82, 0, 0, 0, []), some (.iload_n 2, 83, 0, 2, 0, []), some (.iload_n 3, 84, 0, 3, 0, []), some (.invokevirtual 153, 87, 0, 135, 3, []), none, none, some (.ireturn, 88, 0, 0, 0, [])]
-- LineOriginsModel.told(II)I
def cd_137 : List (Option En) := [some (.iload_n 2, 1, 0, 2, 0, []), some (.ifCond .ge (8), 4, 0, 9, 0, []), none, none, some (.bipush (-9), 6, -9, 0, 0, []), none, some (.goto (24), 9, 0, 30, 0, []), none, none, some (.bipush (8), 11, 8, 0, 0, []), none, some (.aload_n 0, 12, 0, 0, 0, []), some (.getfield 13, 15, 0, 12, 2, []), none, none, some (.iconst (2), 16, 2, 0, 0, []), some (.iload_n 1, 17, 0, 1, 0, []), some (.imul, 18, 0, 0, 0, []), some (.iload_n 2, 19, 0, 2, 0, []), some (.bipush (8), 21, 8, 0, 0, []), none, some (.idiv, 22, 0, 0, 0, []), some (.iadd, 23, 0, 0, 0, []), some (.iaload, 24, 0, 0, 0, []), some (.imul, 25, 0, 0, 0, []), some (.iload_n 2, 26, 0, 2, 0, []), some (.bipush (8), 28, 8, 0, 0, []), none, some (.irem, 29, 0, 0, 0, []), some (.iadd, 30, 0, 0, 0, []), some (.ireturn, 31, 0, 0, 0, [])]
-- LineOriginsModel.ruleOf(II)I
def cd_138 : List (Option En) := [some (.iconst (0), 1, 0, 0, 0, []), some (.istore_n 3, 2, 0, 3, 0, []), some (.iload_n 3, 3, 0, 3, 0, []), some (.iconst (4), 4, 4, 0, 0, []), some (.if_icmp .ge (34), 7, 0, 38, 0, []), none, none, some (.aload_n 0, 8, 0, 0, 0, []), some (.getfield 25, 11, 0, 12, 6, []), none, none, some (.iconst (2), 12, 2, 0, 0, []), some (.iaload, 13, 0, 0, 0, []), some (.iload_n 3, 14, 0, 3, 0, []), some (.invokestatic 146, 17, 0, 119, 4, []), none, none, some (.ifCond .eq (15), 20, 0, 32, 0, []), none, none, some (.aload_n 0, 21, 0, 0, 0, []), some (.iload_n 3, 22, 0, 3, 0, []), some (.iload_n 1, 23, 0, 1, 0, []), some (.iload_n 2, 24, 0, 2, 0, []), some (.invokevirtual 156, 27, 0, 136, 3, []), none, none, some (.ifCond .lt (5), 30, 0, 32, 0, []), none, none, some (.iload_n 3, 31, 0, 3, 0, []), some (.ireturn, 32, 0, 0, 0, []), some (.iinc 3 (1), 35, 1, 3, 0, []), none, none, some (.goto (-33), 38, 0, 2, 0, []), none, none, some (.bipush (-9), 40, -9, 0, 0, []), none, some (.ireturn, 41, 0, 0, 0, [])]
-- LineOriginsModel.lay()V
def cd_139 : List (Option En) := [some (.iconst (0), 1, 0, 0, 0, []), some (.istore_n 1, 2, 0, 1, 0, []), some (.iload_n 1, 3, 0, 1, 0, []), some (.aload_n 0, 4, 0, 0, 0, []), some (.getfield 72, 7, 0, 12, 0, []), none, none, some (.if_icmp .ge (116), 10, 0, 123, 0, []), none, none, some (.iconst (0), 11, 0, 0, 0, []), some (.istore_n 2, 12, 0, 2, 0, []), some (.iload_n 2, 13, 0, 2, 0, []), some (.aload_n 0, 14, 0, 0, 0, []), some (.getfield 7, 17, 0, 12, 1, []), none, none, some (.iload_n 1, 18, 0, 1, 0, []), some (.iaload, 19, 0, 0, 0, []), some (.if_icmp .ge (98), 22, 0, 117, 0, []), none, none, some (.aload_n 0, 23, 0, 0, 0, []), some (.iload_n 1, 24, 0, 1, 0, []), some (.iload_n 2, 25, 0, 2, 0, []), some (.invokevirtual 159, 28, 0, 138, 3, []), none, none, some (.istore_n 3, 29, 0, 3, 0, []), some (.iload_n 3, 30, 0, 3, 0, []), some (.ifCond .ge (8), 33, 0, 38, 0, []), none, none, some (.bipush (-9), 35, -9, 0, 0, []), none, some (.goto (15), 38, 0, 50, 0, []), none, none, some (.aload_n 0, 39, 0, 0, 0, []), some (.iload_n 1, 40, 0, 1, 0, []), some (.aload_n 0, 41, 0, 0, 0, []), some (.iload_n 3, 42, 0, 3, 0, []), some (.iload_n 1, 43, 0, 1, 0, []), some (.iload_n 2, 44, 0, 2, 0, []), some (.invokevirtual 156, 47, 0, 136, 3, []), none, none, some (.invokevirtual 162, 50, 0, 137, 3, []), none, none, some (.istore 4, 52, 0, 4, 0, []), none, some (.aload_n 0, 53, 0, 0, 0, []), some (.getfield 46, 56, 0, 12, 21, []), none, none, some (.bipush (8), 58, 8, 0, 0, []), none, some (.iload_n 1, 59, 0, 1, 0, []), some (.imul, 60, 0, 0, 0, []), some (.iload_n 2, 61, 0, 2, 0, []), some (.iadd, 62, 0, 0, 0, []), some (.iload_n 3, 63, 0, 3, 0, []), some (.ifCond .ge (12), 66, 0, 75, 0, []), none, none, some (.bipush (8), 68, 8, 0, 0, []), none, some (.iload_n 1, 69, 0, 1, 0, []), some (.imul, 70, 0, 0, 0, []), some (.iload_n 2, 71, 0, 2, 0, []), some (.iadd, 72, 0, 0, 0, []), some (.goto (10), 75, 0, 82, 0, []), none, none, some (.aload_n 0, 76, 0, 0, 0, []), some (.getfield 46, 79, 0, 12, 21, []), none, none, some (.iload 4, 81, 0, 4, 0, []), none, some (.iaload, 82, 0, 0, 0, []), some (.iastore, 83, 0, 0, 0, []), some (.aload_n 0, 84, 0, 0, 0, []), some (.getfield 49, 87, 0, 12, 22, []), none, none, some (.bipush (8), 89, 8, 0, 0, []), none, some (.iload_n 1, 90, 0, 1, 0, []), some (.imul, 91, 0, 0, 0, []), some (.iload_n 2, 92, 0, 2, 0, []), some (.iadd, 93, 0, 0, 0, []), some (.iload_n 3, 94, 0, 3, 0, []), some (.ifCond .ge (7), 97, 0, 101, 0, []), none, none, some (.iconst (0), 98, 0, 0, 0, []), some (.goto (12), 101, 0, 110, 0, []), none, none, some (.aload_n 0, 102, 0, 0, 0, []), some (.getfield 49, 105, 0, 12, 22, []), none, none, some (.iload 4, 107, 0, 4, 0, []), none, some (.iaload, 108, 0, 0, 0, []), some (.iconst (1), 109, 1, 0, 0, []), some (.iadd, 110, 0, 0, 0, []), some (.iastore, 111, 0, 0, 0, []), some (.iinc 2 (1), 114, 1, 2, 0, []), none, none, some (.goto (-102), 117, 0, 12, 0, []), none, none, some (.iinc 1 (1), 120, 1, 1, 0, []), none, none, some (.goto (-118), 123, 0, 2, 0, []), none, none, some (.return_, 124, 0, 0, 0, [])]
-- LineOriginsModel.revision(II)I
def cd_140 : List (Option En) := [some (.aload_n 0, 1, 0, 0, 0, []), some (.iload_n 1, 2, 0, 1, 0, []), some (.invokevirtual 79, 5, 0, 120, 3, []), none, none, some (.ifCond .ne (5), 8, 0, 10, 0, []), none, none, some (.iconst (-1), 9, -1, 0, 0, []), some (.ireturn, 10, 0, 0, 0, []), some (.iload_n 2, 11, 0, 2, 0, []), some (.tableswitch (68) (0) (3) #[29, 36, 36, 49], 40, 0, 0, 0, [79, 40, 47, 47, 60]), none, none, none, none, none, none, none, none, none, none, none, none, none, none, none, none, none, none, none, none, none, none, none, none, none, none, none, none, some (.aload_n 0, 41, 0, 0, 0, []), some (.getfield 7, 44, 0, 12, 1, []), none, none, some (.iload_n 1, 45, 0, 1, 0, []), some (.iaload, 46, 0, 0, 0, []), some (.ireturn, 47, 0, 0, 0, []), some (.aload_n 0, 48, 0, 0, 0, []), some (.getfield 13, 51, 0, 12, 2, []), none, none, some (.iconst (2), 52, 2, 0, 0, []), some (.iload_n 1, 53, 0, 1, 0, []), some (.imul, 54, 0, 0, 0, []), some (.iload_n 2, 55, 0, 2, 0, []), some (.iadd, 56, 0, 0, 0, []), some (.iconst (1), 57, 1, 0, 0, []), some (.isub, 58, 0, 0, 0, []), some (.iaload, 59, 0, 0, 0, []), some (.ireturn, 60, 0, 0, 0, []), some (.aload_n 0, 61, 0, 0, 0, []), some (.getfield 25, 64, 0, 12, 6, []), none, none, some (.iconst (1), 65, 1, 0, 0, []), some (.iaload, 66, 0, 0, 0, []), some (.iload_n 1, 67, 0, 1, 0, []), some (.invokestatic 146, 70, 0, 119, 4, []), none, none, some (.ifCond .eq (7), 73, 0, 77, 0, []), none, none, some (.iconst (1), 74, 1, 0, 0, []), some (.goto (4), 77, 0, 78, 0, []), none, none, some (.iconst (0), 78, 0, 0, 0, []), some (.ireturn, 79, 0, 0, 0, []), some (.iconst (-1), 80, -1, 0, 0, []), some (.ireturn, 81, 0, 0, 0, [])]
-- LineOriginsModel.line(III)I
def cd_141 : List (Option En) := [some (.aload_n 0, 1, 0, 0, 0, []), some (.iload_n 1, 2, 0, 1, 0, []), some (.iload_n 2, 3, 0, 2, 0, []), some (.invokevirtual 165, 6, 0, 121, 3, []), none, none, some (.ifCond .ne (5), 9, 0, 11, 0, []), none, none, some (.iconst (-1), 10, -1, 0, 0, []), some (.ireturn, 11, 0, 0, 0, []), some (.aload_n 0, 12, 0, 0, 0, []), some (.invokevirtual 168, 15, 0, 139, 3, []), none, none, some (.iload_n 3, 16, 0, 3, 0, []), some (.tableswitch (110) (0) (6) #[44, 51, 51, 61, 68, 83, 98], 60, 0, 0, 0, [126, 60, 67, 67, 77, 84, 99, 114]), none, none, none, none, none, none, none, none, none, none, none, none, none, none, none, none, none, none, none, none, none, none, none, none, none, none, none, none, none, none, none, none, none, none, none, none, none, none, none, none, none, none, none, some (.aload_n 0, 61, 0, 0, 0, []), some (.iload_n 1, 62, 0, 1, 0, []), some (.iload_n 2, 63, 0, 2, 0, []), some (.invokevirtual 131, 66, 0, 129, 3, []), none, none, some (.ireturn, 67, 0, 0, 0, []), some (.aload_n 0, 68, 0, 0, 0, []), some (.iload_n 1, 69, 0, 1, 0, []), some (.iload_n 2, 70, 0, 2, 0, []), some (.iload_n 3, 71, 0, 3, 0, []), some (.iconst (1), 72, 1, 0, 0, []), some (.isub, 73, 0, 0, 0, []), some (.invokevirtual 138, 76, 0, 132, 3, []), none, none, some (.ireturn, 77, 0, 0, 0, []), some (.aload_n 0, 78, 0, 0, 0, []), some (.iload_n 1, 79, 0, 1, 0, []), some (.iload_n 2, 80, 0, 2, 0, []), some (.invokevirtual 159, 83, 0, 138, 3, []), none, none, some (.ireturn, 84, 0, 0, 0, []), some (.aload_n 0, 85, 0, 0, 0, []), some (.getfield 46, 88, 0, 12, 21, []), none, none, some (.bipush (8), 90, 8, 0, 0, []), none, some (.iload_n 1, 91, 0, 1, 0, []), some (.imul, 92, 0, 0, 0, []), some (.iload_n 2, 93, 0, 2, 0, []), some (.iadd, 94, 0, 0, 0, []), some (.iaload, 95, 0, 0, 0, []), some (.bipush (8), 97, 8, 0, 0, []), none, some (.idiv, 98, 0, 0, 0, []), some (.ireturn, 99, 0, 0, 0, []), some (.aload_n 0, 100, 0, 0, 0, []), some (.getfield 46, 103, 0, 12, 21, []), none, none, some (.bipush (8), 105, 8, 0, 0, []), none, some (.iload_n 1, 106, 0, 1, 0, []), some (.imul, 107, 0, 0, 0, []), some (.iload_n 2, 108, 0, 2, 0, []), some (.iadd, 109, 0, 0, 0, []), some (.iaload, 110, 0, 0, 0, []), some (.bipush (8), 112, 8, 0, 0, []), none, some (.irem, 113, 0, 0, 0, []), some (.ireturn, 114, 0, 0, 0, []), some (.aload_n 0, 115, 0, 0, 0, []), some (.getfield 49, 118, 0, 12, 22, []), none, none, some (.bipush (8), 120, 8, 0, 0, []), none, some (.iload_n 1, 121, 0, 1, 0, []), some (.imul, 122, 0, 0, 0, []), some (.iload_n 2, 123, 0, 2, 0, []), some (.iadd, 124, 0, 0, 0, []), some (.iaload, 125, 0, 0, 0, []), some (.ireturn, 126, 0, 0, 0, []), some (.iconst (-1), 127, -1, 0, 0, []), some (.ireturn, 128, 0, 0, 0, [])]
-- LineOriginsModel.note()V
def cd_142 : List (Option En) := [some (.aload_n 0, 1, 0, 0, 0, []), some (.getfield 65, 4, 0, 12, 8, []), none, none, some (.bipush (10), 6, 10, 0, 0, []), none, some (.if_icmp .ne (41), 9, 0, 47, 0, []), none, none, some (.iconst (0), 10, 0, 0, 0, []), some (.istore_n 1, 11, 0, 1, 0, []), some (.iload_n 1, 12, 0, 1, 0, []), some (.bipush (27), 14, 27, 0, 0, []), none, some (.if_icmp .ge (23), 17, 0, 37, 0, []), none, none, some (.aload_n 0, 18, 0, 0, 0, []), some (.getfield 28, 21, 0, 12, 7, []), none, none, some (.iload_n 1, 22, 0, 1, 0, []), some (.aload_n 0, 23, 0, 0, 0, []), some (.getfield 28, 26, 0, 12, 7, []), none, none, some (.iload_n 1, 27, 0, 1, 0, []), some (.iconst (3), 28, 3, 0, 0, []), some (.iadd, 29, 0, 0, 0, []), some (.iaload, 30, 0, 0, 0, []), some (.iastore, 31, 0, 0, 0, []), some (.iinc 1 (1), 34, 1, 1, 0, []), none, none, some (.goto (-23), 37, 0, 11, 0, []), none, none, some (.aload_n 0, 38, 0, 0, 0, []), some (.dup, 39, 0, 0, 0, []), some (.getfield 65, 42, 0, 12, 8, []), none, none, some (.iconst (1), 43, 1, 0, 0, []), some (.isub, 44, 0, 0, 0, []), some (.putfield 65, 47, 0, 12, 8, []), none, none, some (.iconst (0), 48, 0, 0, 0, []), some (.istore_n 1, 49, 0, 1, 0, []), some (.iload_n 1, 50, 0, 1, 0, []), some (.iconst (3), 51, 3, 0, 0, []), some (.if_icmp .ge (28), 54, 0, 79, 0, []), none, none, some (.aload_n 0, 55, 0, 0, 0, []), some (.getfield 28, 58, 0, 12, 7, []), none, none, some (.iconst (3), 59, 3, 0, 0, []), some (.aload_n 0, 60, 0, 0, 0, []), some (.getfield 65, 63, 0, 12, 8, []), none, none, some (.imul, 64, 0, 0, 0, []), some (.iload_n 1, 65, 0, 1, 0, []), some (.iadd, 66, 0, 0, 0, []), some (.aload_n 0, 67, 0, 0, 0, []), some (.getfield 25, 70, 0, 12, 6, []), none, none, some (.iload_n 1, 71, 0, 1, 0, []), some (.iaload, 72, 0, 0, 0, []), some (.iastore, 73, 0, 0, 0, []), some (.iinc 1 (1), 76, 1, 1, 0, []), none, none, some (.goto (-27), 79, 0, 49, 0, []), none, none, some (.aload_n 0, 80, 0, 0, 0, []), some (.dup, 81, 0, 0, 0, []), some (.getfield 65, 84, 0, 12, 8, []), none, none, some (.iconst (1), 85, 1, 0, 0, []), some (.iadd, 86, 0, 0, 0, []), some (.putfield 65, 89, 0, 12, 8, []), none, none, some (.return_, 90, 0, 0, 0, [])]
-- LineOriginsModel.blocks(I)I
def cd_143 : List (Option En) := [some (.iload_n 1, 1, 0, 1, 0, []), some (.i2l, 2, 0, 0, 0, []), some (.lconst 0, 3, 0, 0, 0, []), some (.ldc2_w 171, 6, 4, 0, 0, []), none, none, some (.invokestatic 75, 9, 0, 118, 4, []), none, none, some (.ifCond .ne (5), 12, 0, 14, 0, []), none, none, some (.iconst (-1), 13, -1, 0, 0, []), some (.ireturn, 14, 0, 0, 0, []), some (.aload_n 0, 15, 0, 0, 0, []), some (.getfield 25, 18, 0, 12, 6, []), none, none, some (.iconst (0), 19, 0, 0, 0, []), some (.iaload, 20, 0, 0, 0, []), some (.iload_n 1, 21, 0, 1, 0, []), some (.if_icmp .ne (6), 24, 0, 27, 0, []), none, none, some (.bipush (-2), 26, -2, 0, 0, []), none, some (.ireturn, 27, 0, 0, 0, []), some (.aload_n 0, 28, 0, 0, 0, []), some (.invokevirtual 173, 31, 0, 142, 3, []), none, none, some (.aload_n 0, 32, 0, 0, 0, []), some (.getfield 25, 35, 0, 12, 6, []), none, none, some (.iconst (0), 36, 0, 0, 0, []), some (.iaload, 37, 0, 0, 0, []), some (.istore_n 2, 38, 0, 2, 0, []), some (.aload_n 0, 39, 0, 0, 0, []), some (.getfield 25, 42, 0, 12, 6, []), none, none, some (.iconst (0), 43, 0, 0, 0, []), some (.iload_n 1, 44, 0, 1, 0, []), some (.iastore, 45, 0, 0, 0, []), some (.iload_n 2, 46, 0, 2, 0, []), some (.ireturn, 47, 0, 0, 0, [])]
-- LineOriginsModel.passes(I)I
def cd_144 : List (Option En) := [some (.aload_n 0, 1, 0, 0, 0, []), some (.iload_n 1, 2, 0, 1, 0, []), some (.invokevirtual 79, 5, 0, 120, 3, []), none, none, some (.ifCond .ne (5), 8, 0, 10, 0, []), none, none, some (.iconst (-1), 9, -1, 0, 0, []), some (.ireturn, 10, 0, 0, 0, []), some (.aload_n 0, 11, 0, 0, 0, []), some (.invokevirtual 173, 14, 0, 142, 3, []), none, none, some (.aload_n 0, 15, 0, 0, 0, []), some (.getfield 25, 18, 0, 12, 6, []), none, none, some (.iconst (1), 19, 1, 0, 0, []), some (.dup2, 20, 0, 0, 0, []), some (.iaload, 21, 0, 0, 0, []), some (.iconst (1), 22, 1, 0, 0, []), some (.iload_n 1, 23, 0, 1, 0, []), some (.ishl, 24, 0, 0, 0, []), some (.ixor, 25, 0, 0, 0, []), some (.iastore, 26, 0, 0, 0, []), some (.aload_n 0, 27, 0, 0, 0, []), some (.getfield 25, 30, 0, 12, 6, []), none, none, some (.iconst (1), 31, 1, 0, 0, []), some (.iaload, 32, 0, 0, 0, []), some (.iload_n 1, 33, 0, 1, 0, []), some (.invokestatic 146, 36, 0, 119, 4, []), none, none, some (.ifCond .eq (7), 39, 0, 43, 0, []), none, none, some (.iconst (1), 40, 1, 0, 0, []), some (.goto (4), 43, 0, 44, 0, []), none, none, some (.iconst (0), 44, 0, 0, 0, []), some (.ireturn, 45, 0, 0, 0, [])]
-- LineOriginsModel.rules(I)I
def cd_145 : List (Option En) := [some (.iload_n 1, 1, 0, 1, 0, []), some (.i2l, 2, 0, 0, 0, []), some (.lconst 0, 3, 0, 0, 0, []), some (.ldc2_w 176, 6, 3, 0, 0, []), none, none, some (.invokestatic 75, 9, 0, 118, 4, []), none, none, some (.ifCond .ne (5), 12, 0, 14, 0, []), none, none, some (.iconst (-1), 13, -1, 0, 0, []), some (.ireturn, 14, 0, 0, 0, []), some (.aload_n 0, 15, 0, 0, 0, []), some (.invokevirtual 173, 18, 0, 142, 3, []), none, none, some (.aload_n 0, 19, 0, 0, 0, []), some (.getfield 25, 22, 0, 12, 6, []), none, none, some (.iconst (2), 23, 2, 0, 0, []), some (.dup2, 24, 0, 0, 0, []), some (.iaload, 25, 0, 0, 0, []), some (.iconst (1), 26, 1, 0, 0, []), some (.iload_n 1, 27, 0, 1, 0, []), some (.ishl, 28, 0, 0, 0, []), some (.ixor, 29, 0, 0, 0, []), some (.iastore, 30, 0, 0, 0, []), some (.aload_n 0, 31, 0, 0, 0, []), some (.getfield 25, 34, 0, 12, 6, []), none, none, some (.iconst (2), 35, 2, 0, 0, []), some (.iaload, 36, 0, 0, 0, []), some (.iload_n 1, 37, 0, 1, 0, []), some (.invokestatic 146, 40, 0, 119, 4, []), none, none, some (.ifCond .eq (7), 43, 0, 47, 0, []), none, none, some (.iconst (1), 44, 1, 0, 0, []), some (.goto (4), 47, 0, 48, 0, []), none, none, some (.iconst (0), 48, 0, 0, 0, []), some (.ireturn, 49, 0, 0, 0, [])]
-- LineOriginsModel.undo()I
def cd_146 : List (Option En) := [some (.aload_n 0, 1, 0, 0, 0, []), some (.getfield 65, 4, 0, 12, 8, []), none, none, some (.ifCond .ne (6), 7, 0, 10, 0, []), none, none, some (.bipush (-2), 9, -2, 0, 0, []), none, some (.ireturn, 10, 0, 0, 0, []), some (.aload_n 0, 11, 0, 0, 0, []), some (.dup, 12, 0, 0, 0, []), some (.getfield 65, 15, 0, 12, 8, []), none, none, some (.iconst (1), 16, 1, 0, 0, []), some (.isub, 17, 0, 0, 0, []), some (.putfield 65, 20, 0, 12, 8, []), none, none, some (.iconst (0), 21, 0, 0, 0, []), some (.istore_n 1, 22, 0, 1, 0, []), some (.iload_n 1, 23, 0, 1, 0, []), some (.iconst (3), 24, 3, 0, 0, []), some (.if_icmp .ge (28), 27, 0, 52, 0, []), none, none, some (.aload_n 0, 28, 0, 0, 0, []), some (.getfield 25, 31, 0, 12, 6, []), none, none, some (.iload_n 1, 32, 0, 1, 0, []), some (.aload_n 0, 33, 0, 0, 0, []), some (.getfield 28, 36, 0, 12, 7, []), none, none, some (.iconst (3), 37, 3, 0, 0, []), some (.aload_n 0, 38, 0, 0, 0, []), some (.getfield 65, 41, 0, 12, 8, []), none, none, some (.imul, 42, 0, 0, 0, []), some (.iload_n 1, 43, 0, 1, 0, []), some (.iadd, 44, 0, 0, 0, []), some (.iaload, 45, 0, 0, 0, []), some (.iastore, 46, 0, 0, 0, []), some (.iinc 1 (1), 49, 1, 1, 0, []), none, none, some (.goto (-27), 52, 0, 22, 0, []), none, none, some (.aload_n 0, 53, 0, 0, 0, []), some (.getfield 65, 56, 0, 12, 8, []), none, none, some (.ireturn, 57, 0, 0, 0, [])]
-- LineOriginsModel.gives(III)I
def cd_147 : List (Option En) := [some (.iload_n 1, 1, 0, 1, 0, []), some (.i2l, 2, 0, 0, 0, []), some (.lconst 0, 3, 0, 0, 0, []), some (.ldc2_w 176, 6, 3, 0, 0, []), none, none, some (.invokestatic 75, 9, 0, 118, 4, []), none, none, some (.ifCond .eq (12), 12, 0, 21, 0, []), none, none, some (.aload_n 0, 13, 0, 0, 0, []), some (.iload_n 2, 14, 0, 2, 0, []), some (.iload_n 3, 15, 0, 3, 0, []), some (.invokevirtual 165, 18, 0, 121, 3, []), none, none, some (.ifCond .ne (5), 21, 0, 23, 0, []), none, none, some (.iconst (-1), 22, -1, 0, 0, []), some (.ireturn, 23, 0, 0, 0, []), some (.aload_n 0, 24, 0, 0, 0, []), some (.iload_n 2, 25, 0, 2, 0, []), some (.aload_n 0, 26, 0, 0, 0, []), some (.iload_n 1, 27, 0, 1, 0, []), some (.iload_n 2, 28, 0, 2, 0, []), some (.iload_n 3, 29, 0, 3, 0, []), some (.invokevirtual 156, 32, 0, 136, 3, []), none, none, some (.invokevirtual 162, 35, 0, 137, 3, []), none, none, some (.ireturn, 36, 0, 0, 0, [])]
-- LineOriginsModel.begun(II)I
def cd_148 : List (Option En) := [some (.aload_n 0, 1, 0, 0, 0, []), some (.iload_n 1, 2, 0, 1, 0, []), some (.invokevirtual 79, 5, 0, 120, 3, []), none, none, some (.ifCond .eq (11), 8, 0, 16, 0, []), none, none, some (.aload_n 0, 9, 0, 0, 0, []), some (.iload_n 2, 10, 0, 2, 0, []), some (.invokevirtual 79, 13, 0, 120, 3, []), none, none, some (.ifCond .ne (5), 16, 0, 18, 0, []), none, none, some (.iconst (-1), 17, -1, 0, 0, []), some (.ireturn, 18, 0, 0, 0, []), some (.aload_n 0, 19, 0, 0, 0, []), some (.invokevirtual 168, 22, 0, 139, 3, []), none, none, some (.iconst (0), 23, 0, 0, 0, []), some (.istore_n 3, 24, 0, 3, 0, []), some (.iconst (0), 25, 0, 0, 0, []), some (.istore 4, 27, 0, 4, 0, []), none, some (.iload 4, 29, 0, 4, 0, []), none, some (.aload_n 0, 30, 0, 0, 0, []), some (.getfield 7, 33, 0, 12, 1, []), none, none, some (.iload_n 1, 34, 0, 1, 0, []), some (.iaload, 35, 0, 0, 0, []), some (.if_icmp .ge (39), 38, 0, 74, 0, []), none, none, some (.iload_n 3, 39, 0, 3, 0, []), some (.aload_n 0, 40, 0, 0, 0, []), some (.getfield 46, 43, 0, 12, 21, []), none, none, some (.bipush (8), 45, 8, 0, 0, []), none, some (.iload_n 1, 46, 0, 1, 0, []), some (.imul, 47, 0, 0, 0, []), some (.iload 4, 49, 0, 4, 0, []), none, some (.iadd, 50, 0, 0, 0, []), some (.iaload, 51, 0, 0, 0, []), some (.bipush (8), 53, 8, 0, 0, []), none, some (.idiv, 54, 0, 0, 0, []), some (.iload_n 2, 55, 0, 2, 0, []), some (.if_icmp .ne (10), 58, 0, 65, 0, []), none, none, some (.iconst (1), 59, 1, 0, 0, []), some (.iload 4, 61, 0, 4, 0, []), none, some (.ishl, 62, 0, 0, 0, []), some (.goto (4), 65, 0, 66, 0, []), none, none, some (.iconst (0), 66, 0, 0, 0, []), some (.ior, 67, 0, 0, 0, []), some (.istore_n 3, 68, 0, 3, 0, []), some (.iinc 4 (1), 71, 1, 4, 0, []), none, none, some (.goto (-44), 74, 0, 27, 0, []), none, none, some (.iload_n 3, 75, 0, 3, 0, []), some (.ireturn, 76, 0, 0, 0, [])]
-- LineOriginsModel.age(II)I
def cd_149 : List (Option En) := [some (.aload_n 0, 1, 0, 0, 0, []), some (.iload_n 1, 2, 0, 1, 0, []), some (.invokevirtual 79, 5, 0, 120, 3, []), none, none, some (.ifCond .eq (7), 8, 0, 12, 0, []), none, none, some (.iload_n 2, 9, 0, 2, 0, []), some (.ifCond .ge (5), 12, 0, 14, 0, []), none, none, some (.iconst (-1), 13, -1, 0, 0, []), some (.ireturn, 14, 0, 0, 0, []), some (.aload_n 0, 15, 0, 0, 0, []), some (.invokevirtual 168, 18, 0, 139, 3, []), none, none, some (.iconst (0), 19, 0, 0, 0, []), some (.istore_n 3, 20, 0, 3, 0, []), some (.iload_n 3, 21, 0, 3, 0, []), some (.aload_n 0, 22, 0, 0, 0, []), some (.getfield 7, 25, 0, 12, 1, []), none, none, some (.iload_n 1, 26, 0, 1, 0, []), some (.iaload, 27, 0, 0, 0, []), some (.if_icmp .ge (97), 30, 0, 124, 0, []), none, none, some (.iconst (0), 31, 0, 0, 0, []), some (.istore 4, 33, 0, 4, 0, []), none, some (.iconst (0), 34, 0, 0, 0, []), some (.istore 5, 36, 0, 5, 0, []), none, some (.iload 5, 38, 0, 5, 0, []), none, some (.aload_n 0, 39, 0, 0, 0, []), some (.getfield 7, 42, 0, 12, 1, []), none, none, some (.iload_n 1, 43, 0, 1, 0, []), some (.iaload, 44, 0, 0, 0, []), some (.if_icmp .ge (66), 47, 0, 110, 0, []), none, none, some (.aload_n 0, 48, 0, 0, 0, []), some (.getfield 46, 51, 0, 12, 21, []), none, none, some (.bipush (8), 53, 8, 0, 0, []), none, some (.iload_n 1, 54, 0, 1, 0, []), some (.imul, 55, 0, 0, 0, []), some (.iload 5, 57, 0, 5, 0, []), none, some (.iadd, 58, 0, 0, 0, []), some (.iaload, 59, 0, 0, 0, []), some (.istore 6, 61, 0, 6, 0, []), none, some (.aload_n 0, 62, 0, 0, 0, []), some (.getfield 46, 65, 0, 12, 21, []), none, none, some (.bipush (8), 67, 8, 0, 0, []), none, some (.iload_n 1, 68, 0, 1, 0, []), some (.imul, 69, 0, 0, 0, []), some (.iload_n 3, 70, 0, 3, 0, []), some (.iadd, 71, 0, 0, 0, []), some (.iaload, 72, 0, 0, 0, []), some (.istore 7, 74, 0, 7, 0, []), none, some (.iload 4, 76, 0, 4, 0, []), none, some (.iload 6, 78, 0, 6, 0, []), none, some (.iload 7, 80, 0, 7, 0, []), none, some (.if_icmp .lt (16), 83, 0, 96, 0, []), none, none, some (.iload 6, 85, 0, 6, 0, []), none, some (.iload 7, 87, 0, 7, 0, []), none, some (.if_icmp .ne (13), 90, 0, 100, 0, []), none, none, some (.iload 5, 92, 0, 5, 0, []), none, some (.iload_n 3, 93, 0, 3, 0, []), some (.if_icmp .ge (7), 96, 0, 100, 0, []), none, none, some (.iconst (1), 97, 1, 0, 0, []), some (.goto (4), 100, 0, 101, 0, []), none, none, some (.iconst (0), 101, 0, 0, 0, []), some (.iadd, 102, 0, 0, 0, []), some (.istore 4, 104, 0, 4, 0, []), none, some (.iinc 5 (1), 107, 1, 5, 0, []), none, none, some (.goto (-71), 110, 0, 36, 0, []), none, none, some (.iload 4, 112, 0, 4, 0, []), none, some (.iload_n 2, 113, 0, 2, 0, []), some (.if_icmp .ne (5), 116, 0, 118, 0, []), none, none, some (.iload_n 3, 117, 0, 3, 0, []), some (.ireturn, 118, 0, 0, 0, []), some (.iinc 3 (1), 121, 1, 3, 0, []), none, none, some (.goto (-101), 124, 0, 20, 0, []), none, none, some (.bipush (-9), 126, -9, 0, 0, []), none, some (.ireturn, 127, 0, 0, 0, [])]
-- LineOriginsModel.linesOf(II)I
def cd_150 : List (Option En) := [some (.iconst (0), 1, 0, 0, 0, []), some (.istore_n 3, 2, 0, 3, 0, []), some (.iconst (0), 3, 0, 0, 0, []), some (.istore 4, 5, 0, 4, 0, []), none, some (.iload 4, 7, 0, 4, 0, []), none, some (.aload_n 0, 8, 0, 0, 0, []), some (.getfield 7, 11, 0, 12, 1, []), none, none, some (.iload_n 1, 12, 0, 1, 0, []), some (.iaload, 13, 0, 0, 0, []), some (.if_icmp .ge (36), 16, 0, 49, 0, []), none, none, some (.iload_n 3, 17, 0, 3, 0, []), some (.aload_n 0, 18, 0, 0, 0, []), some (.getfield 46, 21, 0, 12, 21, []), none, none, some (.bipush (8), 23, 8, 0, 0, []), none, some (.iload_n 1, 24, 0, 1, 0, []), some (.imul, 25, 0, 0, 0, []), some (.iload 4, 27, 0, 4, 0, []), none, some (.iadd, 28, 0, 0, 0, []), some (.iaload, 29, 0, 0, 0, []), some (.iload_n 2, 30, 0, 2, 0, []), some (.if_icmp .ne (10), 33, 0, 40, 0, []), none, none, some (.iconst (1), 34, 1, 0, 0, []), some (.iload 4, 36, 0, 4, 0, []), none, some (.ishl, 37, 0, 0, 0, []), some (.goto (4), 40, 0, 41, 0, []), none, none, some (.iconst (0), 41, 0, 0, 0, []), some (.ior, 42, 0, 0, 0, []), some (.istore_n 3, 43, 0, 3, 0, []), some (.iinc 4 (1), 46, 1, 4, 0, []), none, none, some (.goto (-41), 49, 0, 5, 0, []), none, none, some (.iload_n 3, 50, 0, 3, 0, []), some (.ireturn, 51, 0, 0, 0, [])]
-- LineOriginsModel.like(III)I
def cd_151 : List (Option En) := [some (.aload_n 0, 1, 0, 0, 0, []), some (.iload_n 1, 2, 0, 1, 0, []), some (.iload_n 2, 3, 0, 2, 0, []), some (.invokevirtual 165, 6, 0, 121, 3, []), none, none, some (.ifCond .eq (11), 9, 0, 17, 0, []), none, none, some (.aload_n 0, 10, 0, 0, 0, []), some (.iload_n 3, 11, 0, 3, 0, []), some (.invokevirtual 79, 14, 0, 120, 3, []), none, none, some (.ifCond .ne (5), 17, 0, 19, 0, []), none, none, some (.iconst (-1), 18, -1, 0, 0, []), some (.ireturn, 19, 0, 0, 0, []), some (.aload_n 0, 20, 0, 0, 0, []), some (.invokevirtual 168, 23, 0, 139, 3, []), none, none, some (.aload_n 0, 24, 0, 0, 0, []), some (.iload_n 3, 25, 0, 3, 0, []), some (.aload_n 0, 26, 0, 0, 0, []), some (.getfield 46, 29, 0, 12, 21, []), none, none, some (.bipush (8), 31, 8, 0, 0, []), none, some (.iload_n 1, 32, 0, 1, 0, []), some (.imul, 33, 0, 0, 0, []), some (.iload_n 2, 34, 0, 2, 0, []), some (.iadd, 35, 0, 0, 0, []), some (.iaload, 36, 0, 0, 0, []), some (.invokevirtual 178, 39, 0, 150, 3, []), none, none, some (.ireturn, 40, 0, 0, 0, [])]
-- LineOriginsModel.carried(II)I
def cd_152 : List (Option En) := [some (.aload_n 0, 1, 0, 0, 0, []), some (.iload_n 1, 2, 0, 1, 0, []), some (.iload_n 2, 3, 0, 2, 0, []), some (.invokevirtual 165, 6, 0, 121, 3, []), none, none, some (.ifCond .ne (5), 9, 0, 11, 0, []), none, none, some (.iconst (-1), 10, -1, 0, 0, []), some (.ireturn, 11, 0, 0, 0, []), some (.aload_n 0, 12, 0, 0, 0, []), some (.invokevirtual 168, 15, 0, 139, 3, []), none, none, some (.iconst (0), 16, 0, 0, 0, []), some (.istore_n 3, 17, 0, 3, 0, []), some (.iconst (0), 18, 0, 0, 0, []), some (.istore 4, 20, 0, 4, 0, []), none, some (.iload 4, 22, 0, 4, 0, []), none, some (.aload_n 0, 23, 0, 0, 0, []), some (.getfield 72, 26, 0, 12, 0, []), none, none, some (.if_icmp .ge (35), 29, 0, 61, 0, []), none, none, some (.iload_n 3, 30, 0, 3, 0, []), some (.aload_n 0, 31, 0, 0, 0, []), some (.iload 4, 33, 0, 4, 0, []), none, some (.bipush (8), 35, 8, 0, 0, []), none, some (.iload_n 1, 36, 0, 1, 0, []), some (.imul, 37, 0, 0, 0, []), some (.iload_n 2, 38, 0, 2, 0, []), some (.iadd, 39, 0, 0, 0, []), some (.invokevirtual 178, 42, 0, 150, 3, []), none, none, some (.ifCond .eq (10), 45, 0, 52, 0, []), none, none, some (.iconst (1), 46, 1, 0, 0, []), some (.iload 4, 48, 0, 4, 0, []), none, some (.ishl, 49, 0, 0, 0, []), some (.goto (4), 52, 0, 53, 0, []), none, none, some (.iconst (0), 53, 0, 0, 0, []), some (.ior, 54, 0, 0, 0, []), some (.istore_n 3, 55, 0, 3, 0, []), some (.iinc 4 (1), 58, 1, 4, 0, []), none, none, some (.goto (-38), 61, 0, 20, 0, []), none, none, some (.iload_n 3, 62, 0, 3, 0, []), some (.ireturn, 63, 0, 0, 0, [])]
-- LineOriginsModel.kept(II)I
def cd_153 : List (Option En) := [some (.aload_n 0, 1, 0, 0, 0, []), some (.iload_n 1, 2, 0, 1, 0, []), some (.invokevirtual 79, 5, 0, 120, 3, []), none, none, some (.ifCond .eq (11), 8, 0, 16, 0, []), none, none, some (.aload_n 0, 9, 0, 0, 0, []), some (.iload_n 2, 10, 0, 2, 0, []), some (.invokevirtual 79, 13, 0, 120, 3, []), none, none, some (.ifCond .ne (5), 16, 0, 18, 0, []), none, none, some (.iconst (-1), 17, -1, 0, 0, []), some (.ireturn, 18, 0, 0, 0, []), some (.aload_n 0, 19, 0, 0, 0, []), some (.invokevirtual 168, 22, 0, 139, 3, []), none, none, some (.iconst (0), 23, 0, 0, 0, []), some (.istore_n 3, 24, 0, 3, 0, []), some (.iconst (0), 25, 0, 0, 0, []), some (.istore 4, 27, 0, 4, 0, []), none, some (.iload 4, 29, 0, 4, 0, []), none, some (.aload_n 0, 30, 0, 0, 0, []), some (.getfield 7, 33, 0, 12, 1, []), none, none, some (.iload_n 1, 34, 0, 1, 0, []), some (.iaload, 35, 0, 0, 0, []), some (.if_icmp .ge (66), 38, 0, 101, 0, []), none, none, some (.aload_n 0, 39, 0, 0, 0, []), some (.getfield 46, 42, 0, 12, 21, []), none, none, some (.bipush (8), 44, 8, 0, 0, []), none, some (.iload_n 1, 45, 0, 1, 0, []), some (.imul, 46, 0, 0, 0, []), some (.iload 4, 48, 0, 4, 0, []), none, some (.iadd, 49, 0, 0, 0, []), some (.iaload, 50, 0, 0, 0, []), some (.bipush (8), 52, 8, 0, 0, []), none, some (.iload_n 1, 53, 0, 1, 0, []), some (.imul, 54, 0, 0, 0, []), some (.iload 4, 56, 0, 4, 0, []), none, some (.iadd, 57, 0, 0, 0, []), some (.if_icmp .ne (7), 60, 0, 64, 0, []), none, none, some (.iconst (1), 61, 1, 0, 0, []), some (.goto (4), 64, 0, 65, 0, []), none, none, some (.iconst (0), 65, 0, 0, 0, []), some (.istore 5, 67, 0, 5, 0, []), none, some (.iload_n 3, 68, 0, 3, 0, []), some (.iload 5, 70, 0, 5, 0, []), none, some (.ifCond .eq (22), 73, 0, 92, 0, []), none, none, some (.aload_n 0, 74, 0, 0, 0, []), some (.iload_n 2, 75, 0, 2, 0, []), some (.bipush (8), 77, 8, 0, 0, []), none, some (.iload_n 1, 78, 0, 1, 0, []), some (.imul, 79, 0, 0, 0, []), some (.iload 4, 81, 0, 4, 0, []), none, some (.iadd, 82, 0, 0, 0, []), some (.invokevirtual 178, 85, 0, 150, 3, []), none, none, some (.ifCond .eq (7), 88, 0, 92, 0, []), none, none, some (.iconst (1), 89, 1, 0, 0, []), some (.goto (4), 92, 0, 93, 0, []), none, none, some (.iconst (0), 93, 0, 0, 0, []), some (.iadd, 94, 0, 0, 0, []), some (.istore_n 3, 95, 0, 3, 0, []), some (.iinc 4 (1), 98, 1, 4, 0, []), none, none, some (.goto (-71), 101, 0, 27, 0, []), none, none, some (.iload_n 3, 102, 0, 3, 0, []), some (.ireturn, 103, 0, 0, 0, [])]
-- LineOriginsModel.common(II)I
def cd_154 : List (Option En) := [some (.aload_n 0, 1, 0, 0, 0, []), some (.iload_n 1, 2, 0, 1, 0, []), some (.invokevirtual 79, 5, 0, 120, 3, []), none, none, some (.ifCond .eq (13), 8, 0, 18, 0, []), none, none, some (.iload_n 2, 9, 0, 2, 0, []), some (.i2l, 10, 0, 0, 0, []), some (.lconst 0, 11, 0, 0, 0, []), some (.lconst 1, 12, 1, 0, 0, []), some (.invokestatic 75, 15, 0, 118, 4, []), none, none, some (.ifCond .ne (5), 18, 0, 20, 0, []), none, none, some (.iconst (-1), 19, -1, 0, 0, []), some (.ireturn, 20, 0, 0, 0, []), some (.aload_n 0, 21, 0, 0, 0, []), some (.getfield 13, 24, 0, 12, 2, []), none, none, some (.iconst (2), 25, 2, 0, 0, []), some (.iload_n 1, 26, 0, 1, 0, []), some (.imul, 27, 0, 0, 0, []), some (.iload_n 2, 28, 0, 2, 0, []), some (.iadd, 29, 0, 0, 0, []), some (.iaload, 30, 0, 0, 0, []), some (.istore_n 3, 31, 0, 3, 0, []), some (.iload_n 3, 32, 0, 3, 0, []), some (.ifCond .ge (6), 35, 0, 38, 0, []), none, none, some (.bipush (-9), 37, -9, 0, 0, []), none, some (.ireturn, 38, 0, 0, 0, []), some (.aload_n 0, 39, 0, 0, 0, []), some (.iload_n 3, 40, 0, 3, 0, []), some (.iload_n 1, 41, 0, 1, 0, []), some (.invokevirtual 135, 44, 0, 130, 3, []), none, none, some (.aload_n 0, 45, 0, 0, 0, []), some (.getfield 43, 48, 0, 12, 20, []), none, none, some (.iconst (0), 49, 0, 0, 0, []), some (.iaload, 50, 0, 0, 0, []), some (.ireturn, 51, 0, 0, 0, [])]
-- LineOriginsModel.sees(IIII)I
def cd_155 : List (Option En) := [some (.aload_n 0, 1, 0, 0, 0, []), some (.iload_n 1, 2, 0, 1, 0, []), some (.iload_n 2, 3, 0, 2, 0, []), some (.invokevirtual 165, 6, 0, 121, 3, []), none, none, some (.ifCond .eq (22), 9, 0, 28, 0, []), none, none, some (.aload_n 0, 10, 0, 0, 0, []), some (.iload_n 3, 11, 0, 3, 0, []), some (.invokevirtual 79, 14, 0, 120, 3, []), none, none, some (.ifCond .eq (14), 17, 0, 28, 0, []), none, none, some (.iload 4, 19, 0, 4, 0, []), none, some (.i2l, 20, 0, 0, 0, []), some (.lconst 0, 21, 0, 0, 0, []), some (.lconst 1, 22, 1, 0, 0, []), some (.invokestatic 75, 25, 0, 118, 4, []), none, none, some (.ifCond .ne (5), 28, 0, 30, 0, []), none, none, some (.iconst (-1), 29, -1, 0, 0, []), some (.ireturn, 30, 0, 0, 0, []), some (.aload_n 0, 31, 0, 0, 0, []), some (.getfield 69, 34, 0, 12, 24, []), none, none, some (.bipush (6), 36, 6, 0, 0, []), none, some (.if_icmp .ne (6), 39, 0, 42, 0, []), none, none, some (.bipush (-3), 41, -3, 0, 0, []), none, some (.ireturn, 42, 0, 0, 0, []), some (.aload_n 0, 43, 0, 0, 0, []), some (.getfield 52, 46, 0, 12, 23, []), none, none, some (.iconst (4), 47, 4, 0, 0, []), some (.aload_n 0, 48, 0, 0, 0, []), some (.getfield 69, 51, 0, 12, 24, []), none, none, some (.imul, 52, 0, 0, 0, []), some (.iload_n 1, 53, 0, 1, 0, []), some (.iastore, 54, 0, 0, 0, []), some (.aload_n 0, 55, 0, 0, 0, []), some (.getfield 52, 58, 0, 12, 23, []), none, none, some (.iconst (4), 59, 4, 0, 0, []), some (.aload_n 0, 60, 0, 0, 0, []), some (.getfield 69, 63, 0, 12, 24, []), none, none, some (.imul, 64, 0, 0, 0, []), some (.iconst (1), 65, 1, 0, 0, []), some (.iadd, 66, 0, 0, 0, []), some (.iload_n 2, 67, 0, 2, 0, []), some (.iastore, 68, 0, 0, 0, []), some (.aload_n 0, 69, 0, 0, 0, []), some (.getfield 52, 72, 0, 12, 23, []), none, none, some (.iconst (4), 73, 4, 0, 0, []), some (.aload_n 0, 74, 0, 0, 0, []), some (.getfield 69, 77, 0, 12, 24, []), none, none, some (.imul, 78, 0, 0, 0, []), some (.iconst (2), 79, 2, 0, 0, []), some (.iadd, 80, 0, 0, 0, []), some (.iload_n 3, 81, 0, 3, 0, []), some (.iastore, 82, 0, 0, 0, []), some (.aload_n 0, 83, 0, 0, 0, []), some (.getfield 52, 86, 0, 12, 23, []), none, none, some (.iconst (4), 87, 4, 0, 0, []), some (.aload_n 0, 88, 0, 0, 0, []), some (.getfield 69, 91, 0, 12, 24, []), none, none, some (.imul, 92, 0, 0, 0, []), some (.iconst (3), 93, 3, 0, 0, []), some (.iadd, 94, 0, 0, 0, []), some (.iload 4, 96, 0, 4, 0, []), none, some (.iastore, 97, 0, 0, 0, []), some (.aload_n 0, 98, 0, 0, 0, []), some (.dup, 99, 0, 0, 0, []), some (.getfield 69, 102, 0, 12, 24, []), none, none, some (.iconst (1), 103, 1, 0, 0, []), some (.iadd, 104, 0, 0, 0, []), some (.putfield 69, 107, 0, 12, 24, []), none, none, some (.aload_n 0, 108, 0, 0, 0, []), some (.getfield 69, 111, 0, 12, 24, []), none, none, some (.ireturn, 112, 0, 0, 0, [])]
-- LineOriginsModel.forget()I
def cd_156 : List (Option En) := [some (.aload_n 0, 1, 0, 0, 0, []), some (.getfield 69, 4, 0, 12, 24, []), none, none, some (.istore_n 1, 5, 0, 1, 0, []), some (.aload_n 0, 6, 0, 0, 0, []), some (.iconst (0), 7, 0, 0, 0, []), some (.putfield 69, 10, 0, 12, 24, []), none, none, some (.iload_n 1, 11, 0, 1, 0, []), some (.ireturn, 12, 0, 0, 0, [])]
-- LineOriginsModel.isSeenSo()Z
def cd_157 : List (Option En) := [some (.aload_n 0, 1, 0, 0, 0, []), some (.invokevirtual 168, 4, 0, 139, 3, []), none, none, some (.iconst (1), 5, 1, 0, 0, []), some (.istore_n 1, 6, 0, 1, 0, []), some (.iconst (0), 7, 0, 0, 0, []), some (.istore_n 2, 8, 0, 2, 0, []), some (.iload_n 2, 9, 0, 2, 0, []), some (.aload_n 0, 10, 0, 0, 0, []), some (.getfield 69, 13, 0, 12, 24, []), none, none, some (.if_icmp .ge (91), 16, 0, 104, 0, []), none, none, some (.aload_n 0, 17, 0, 0, 0, []), some (.getfield 46, 20, 0, 12, 21, []), none, none, some (.bipush (8), 22, 8, 0, 0, []), none, some (.aload_n 0, 23, 0, 0, 0, []), some (.getfield 52, 26, 0, 12, 23, []), none, none, some (.iconst (4), 27, 4, 0, 0, []), some (.iload_n 2, 28, 0, 2, 0, []), some (.imul, 29, 0, 0, 0, []), some (.iaload, 30, 0, 0, 0, []), some (.imul, 31, 0, 0, 0, []), some (.aload_n 0, 32, 0, 0, 0, []), some (.getfield 52, 35, 0, 12, 23, []), none, none, some (.iconst (4), 36, 4, 0, 0, []), some (.iload_n 2, 37, 0, 2, 0, []), some (.imul, 38, 0, 0, 0, []), some (.iconst (1), 39, 1, 0, 0, []), some (.iadd, 40, 0, 0, 0, []), some (.iaload, 41, 0, 0, 0, []), some (.iadd, 42, 0, 0, 0, []), some (.iaload, 43, 0, 0, 0, []), some (.bipush (8), 45, 8, 0, 0, []), none, some (.idiv, 46, 0, 0, 0, []), some (.aload_n 0, 47, 0, 0, 0, []), some (.getfield 52, 50, 0, 12, 23, []), none, none, some (.iconst (4), 51, 4, 0, 0, []), some (.iload_n 2, 52, 0, 2, 0, []), some (.imul, 53, 0, 0, 0, []), some (.iconst (2), 54, 2, 0, 0, []), some (.iadd, 55, 0, 0, 0, []), some (.iaload, 56, 0, 0, 0, []), some (.if_icmp .ne (7), 59, 0, 63, 0, []), none, none, some (.iconst (1), 60, 1, 0, 0, []), some (.goto (4), 63, 0, 64, 0, []), none, none, some (.iconst (0), 64, 0, 0, 0, []), some (.istore_n 3, 65, 0, 3, 0, []), some (.iload_n 1, 66, 0, 1, 0, []), some (.ifCond .eq (30), 69, 0, 96, 0, []), none, none, some (.iload_n 3, 70, 0, 3, 0, []), some (.aload_n 0, 71, 0, 0, 0, []), some (.getfield 52, 74, 0, 12, 23, []), none, none, some (.iconst (4), 75, 4, 0, 0, []), some (.iload_n 2, 76, 0, 2, 0, []), some (.imul, 77, 0, 0, 0, []), some (.iconst (3), 78, 3, 0, 0, []), some (.iadd, 79, 0, 0, 0, []), some (.iaload, 80, 0, 0, 0, []), some (.iconst (1), 81, 1, 0, 0, []), some (.if_icmp .ne (7), 84, 0, 88, 0, []), none, none, some (.iconst (1), 85, 1, 0, 0, []), some (.goto (4), 88, 0, 89, 0, []), none, none, some (.iconst (0), 89, 0, 0, 0, []), some (.if_icmp .ne (7), 92, 0, 96, 0, []), none, none, some (.iconst (1), 93, 1, 0, 0, []), some (.goto (4), 96, 0, 97, 0, []), none, none, some (.iconst (0), 97, 0, 0, 0, []), some (.istore_n 1, 98, 0, 1, 0, []), some (.iinc 2 (1), 101, 1, 2, 0, []), none, none, some (.goto (-93), 104, 0, 8, 0, []), none, none, some (.iload_n 1, 105, 0, 1, 0, []), some (.ireturn, 106, 0, 0, 0, [])]
-- LineOriginsModel.unseen()I
def cd_158 : List (Option En) := [some (.iconst (0), 1, 0, 0, 0, []), some (.istore_n 1, 2, 0, 1, 0, []), some (.iconst (0), 3, 0, 0, 0, []), some (.istore_n 2, 4, 0, 2, 0, []), some (.iload_n 2, 5, 0, 2, 0, []), some (.aload_n 0, 6, 0, 0, 0, []), some (.getfield 72, 9, 0, 12, 0, []), none, none, some (.if_icmp .ge (50), 12, 0, 59, 0, []), none, none, some (.aload_n 0, 13, 0, 0, 0, []), some (.getfield 25, 16, 0, 12, 6, []), none, none, some (.iconst (1), 17, 1, 0, 0, []), some (.dup2, 18, 0, 0, 0, []), some (.iaload, 19, 0, 0, 0, []), some (.iconst (1), 20, 1, 0, 0, []), some (.iload_n 2, 21, 0, 2, 0, []), some (.ishl, 22, 0, 0, 0, []), some (.ixor, 23, 0, 0, 0, []), some (.iastore, 24, 0, 0, 0, []), some (.iload_n 1, 25, 0, 1, 0, []), some (.aload_n 0, 26, 0, 0, 0, []), some (.invokevirtual 181, 29, 0, 157, 3, []), none, none, some (.ifCond .eq (9), 32, 0, 38, 0, []), none, none, some (.iconst (1), 33, 1, 0, 0, []), some (.iload_n 2, 34, 0, 2, 0, []), some (.ishl, 35, 0, 0, 0, []), some (.goto (4), 38, 0, 39, 0, []), none, none, some (.iconst (0), 39, 0, 0, 0, []), some (.ior, 40, 0, 0, 0, []), some (.istore_n 1, 41, 0, 1, 0, []), some (.aload_n 0, 42, 0, 0, 0, []), some (.getfield 25, 45, 0, 12, 6, []), none, none, some (.iconst (1), 46, 1, 0, 0, []), some (.dup2, 47, 0, 0, 0, []), some (.iaload, 48, 0, 0, 0, []), some (.iconst (1), 49, 1, 0, 0, []), some (.iload_n 2, 50, 0, 2, 0, []), some (.ishl, 51, 0, 0, 0, []), some (.ixor, 52, 0, 0, 0, []), some (.iastore, 53, 0, 0, 0, []), some (.iinc 2 (1), 56, 1, 2, 0, []), none, none, some (.goto (-52), 59, 0, 4, 0, []), none, none, some (.iload_n 1, 60, 0, 1, 0, []), some (.ireturn, 61, 0, 0, 0, [])]
-- LineOriginsModel.keep(I)I
def cd_159 : List (Option En) := [some (.iload_n 1, 1, 0, 1, 0, []), some (.i2l, 2, 0, 0, 0, []), some (.lconst 0, 3, 0, 0, 0, []), some (.lconst 1, 4, 1, 0, 0, []), some (.invokestatic 75, 7, 0, 118, 4, []), none, none, some (.ifCond .ne (5), 10, 0, 12, 0, []), none, none, some (.iconst (-1), 11, -1, 0, 0, []), some (.ireturn, 12, 0, 0, 0, []), some (.iconst (0), 13, 0, 0, 0, []), some (.istore_n 2, 14, 0, 2, 0, []), some (.iload_n 2, 15, 0, 2, 0, []), some (.iconst (3), 16, 3, 0, 0, []), some (.if_icmp .ge (25), 19, 0, 41, 0, []), none, none, some (.aload_n 0, 20, 0, 0, 0, []), some (.getfield 55, 23, 0, 12, 25, []), none, none, some (.iconst (3), 24, 3, 0, 0, []), some (.iload_n 1, 25, 0, 1, 0, []), some (.imul, 26, 0, 0, 0, []), some (.iload_n 2, 27, 0, 2, 0, []), some (.iadd, 28, 0, 0, 0, []), some (.aload_n 0, 29, 0, 0, 0, []), some (.getfield 25, 32, 0, 12, 6, []), none, none, some (.iload_n 2, 33, 0, 2, 0, []), some (.iaload, 34, 0, 0, 0, []), some (.iastore, 35, 0, 0, 0, []), some (.iinc 2 (1), 38, 1, 2, 0, []), none, none, some (.goto (-24), 41, 0, 14, 0, []), none, none, some (.aload_n 0, 42, 0, 0, 0, []), some (.getfield 58, 45, 0, 12, 26, []), none, none, some (.iload_n 1, 46, 0, 1, 0, []), some (.iconst (1), 47, 1, 0, 0, []), some (.bastore, 48, 0, 0, 0, []), some (.aload_n 0, 49, 0, 0, 0, []), some (.getfield 25, 52, 0, 12, 6, []), none, none, some (.iconst (0), 53, 0, 0, 0, []), some (.iaload, 54, 0, 0, 0, []), some (.ireturn, 55, 0, 0, 0, [])]
-- LineOriginsModel.back(I)I
def cd_160 : List (Option En) := [some (.iload_n 1, 1, 0, 1, 0, []), some (.i2l, 2, 0, 0, 0, []), some (.lconst 0, 3, 0, 0, 0, []), some (.lconst 1, 4, 1, 0, 0, []), some (.invokestatic 75, 7, 0, 118, 4, []), none, none, some (.ifCond .ne (5), 10, 0, 12, 0, []), none, none, some (.iconst (-1), 11, -1, 0, 0, []), some (.ireturn, 12, 0, 0, 0, []), some (.aload_n 0, 13, 0, 0, 0, []), some (.getfield 58, 16, 0, 12, 26, []), none, none, some (.iload_n 1, 17, 0, 1, 0, []), some (.baload, 18, 0, 0, 0, []), some (.ifCond .ne (6), 21, 0, 24, 0, []), none, none, some (.bipush (-2), 23, -2, 0, 0, []), none, some (.ireturn, 24, 0, 0, 0, []), some (.iconst (0), 25, 0, 0, 0, []), some (.istore_n 2, 26, 0, 2, 0, []), some (.iload_n 2, 27, 0, 2, 0, []), some (.iconst (3), 28, 3, 0, 0, []), some (.if_icmp .ge (25), 31, 0, 53, 0, []), none, none, some (.aload_n 0, 32, 0, 0, 0, []), some (.getfield 25, 35, 0, 12, 6, []), none, none, some (.iload_n 2, 36, 0, 2, 0, []), some (.aload_n 0, 37, 0, 0, 0, []), some (.getfield 55, 40, 0, 12, 25, []), none, none, some (.iconst (3), 41, 3, 0, 0, []), some (.iload_n 1, 42, 0, 1, 0, []), some (.imul, 43, 0, 0, 0, []), some (.iload_n 2, 44, 0, 2, 0, []), some (.iadd, 45, 0, 0, 0, []), some (.iaload, 46, 0, 0, 0, []), some (.iastore, 47, 0, 0, 0, []), some (.iinc 2 (1), 50, 1, 2, 0, []), none, none, some (.goto (-24), 53, 0, 26, 0, []), none, none, some (.aload_n 0, 54, 0, 0, 0, []), some (.iconst (0), 55, 0, 0, 0, []), some (.putfield 65, 58, 0, 12, 8, []), none, none, some (.aload_n 0, 59, 0, 0, 0, []), some (.getfield 25, 62, 0, 12, 6, []), none, none, some (.iconst (0), 63, 0, 0, 0, []), some (.iaload, 64, 0, 0, 0, []), some (.ireturn, 65, 0, 0, 0, [])]
-- LineOriginsModel.allLines()I
def cd_161 : List (Option En) := [some (.iconst (0), 1, 0, 0, 0, []), some (.istore_n 1, 2, 0, 1, 0, []), some (.iconst (0), 3, 0, 0, 0, []), some (.istore_n 2, 4, 0, 2, 0, []), some (.iload_n 2, 5, 0, 2, 0, []), some (.aload_n 0, 6, 0, 0, 0, []), some (.getfield 72, 9, 0, 12, 0, []), none, none, some (.if_icmp .ge (18), 12, 0, 27, 0, []), none, none, some (.iload_n 1, 13, 0, 1, 0, []), some (.aload_n 0, 14, 0, 0, 0, []), some (.getfield 7, 17, 0, 12, 1, []), none, none, some (.iload_n 2, 18, 0, 2, 0, []), some (.iaload, 19, 0, 0, 0, []), some (.iadd, 20, 0, 0, 0, []), some (.istore_n 1, 21, 0, 1, 0, []), some (.iinc 2 (1), 24, 1, 2, 0, []), none, none, some (.goto (-20), 27, 0, 4, 0, []), none, none, some (.iload_n 1, 28, 0, 1, 0, []), some (.ireturn, 29, 0, 0, 0, [])]
-- LineOriginsModel.ownMany()I
def cd_162 : List (Option En) := [some (.aload_n 0, 1, 0, 0, 0, []), some (.invokevirtual 168, 4, 0, 139, 3, []), none, none, some (.iconst (0), 5, 0, 0, 0, []), some (.istore_n 1, 6, 0, 1, 0, []), some (.iconst (0), 7, 0, 0, 0, []), some (.istore_n 2, 8, 0, 2, 0, []), some (.iload_n 2, 9, 0, 2, 0, []), some (.aload_n 0, 10, 0, 0, 0, []), some (.getfield 72, 13, 0, 12, 0, []), none, none, some (.if_icmp .ge (55), 16, 0, 68, 0, []), none, none, some (.iconst (0), 17, 0, 0, 0, []), some (.istore_n 3, 18, 0, 3, 0, []), some (.iload_n 3, 19, 0, 3, 0, []), some (.aload_n 0, 20, 0, 0, 0, []), some (.getfield 7, 23, 0, 12, 1, []), none, none, some (.iload_n 2, 24, 0, 2, 0, []), some (.iaload, 25, 0, 0, 0, []), some (.if_icmp .ge (37), 28, 0, 62, 0, []), none, none, some (.iload_n 1, 29, 0, 1, 0, []), some (.aload_n 0, 30, 0, 0, 0, []), some (.getfield 46, 33, 0, 12, 21, []), none, none, some (.bipush (8), 35, 8, 0, 0, []), none, some (.iload_n 2, 36, 0, 2, 0, []), some (.imul, 37, 0, 0, 0, []), some (.iload_n 3, 38, 0, 3, 0, []), some (.iadd, 39, 0, 0, 0, []), some (.iaload, 40, 0, 0, 0, []), some (.bipush (8), 42, 8, 0, 0, []), none, some (.iload_n 2, 43, 0, 2, 0, []), some (.imul, 44, 0, 0, 0, []), some (.iload_n 3, 45, 0, 3, 0, []), some (.iadd, 46, 0, 0, 0, []), some (.if_icmp .ne (7), 49, 0, 53, 0, []), none, none, some (.iconst (1), 50, 1, 0, 0, []), some (.goto (4), 53, 0, 54, 0, []), none, none, some (.iconst (0), 54, 0, 0, 0, []), some (.iadd, 55, 0, 0, 0, []), some (.istore_n 1, 56, 0, 1, 0, []), some (.iinc 3 (1), 59, 1, 3, 0, []), none, none, some (.goto (-41), 62, 0, 18, 0, []), none, none, some (.iinc 2 (1), 65, 1, 2, 0, []), none, none, some (.goto (-57), 68, 0, 8, 0, []), none, none, some (.iload_n 1, 69, 0, 1, 0, []), some (.ireturn, 70, 0, 0, 0, [])]
-- LineOriginsModel.count(I)I
def cd_163 : List (Option En) := [some (.iload_n 1, 1, 0, 1, 0, []), some (.tableswitch (90) (0) (8) #[51, 56, 56, 56, 65, 70, 75, 80, 85], 52, 0, 0, 0, [91, 52, 57, 57, 57, 66, 71, 76, 81, 86]), none, none, none, none, none, none, none, none, none, none, none, none, none, none, none, none, none, none, none, none, none, none, none, none, none, none, none, none, none, none, none, none, none, none, none, none, none, none, none, none, none, none, none, none, none, none, none, none, none, none, some (.aload_n 0, 53, 0, 0, 0, []), some (.getfield 72, 56, 0, 12, 0, []), none, none, some (.ireturn, 57, 0, 0, 0, []), some (.aload_n 0, 58, 0, 0, 0, []), some (.getfield 25, 61, 0, 12, 6, []), none, none, some (.iload_n 1, 62, 0, 1, 0, []), some (.iconst (1), 63, 1, 0, 0, []), some (.isub, 64, 0, 0, 0, []), some (.iaload, 65, 0, 0, 0, []), some (.ireturn, 66, 0, 0, 0, []), some (.aload_n 0, 67, 0, 0, 0, []), some (.invokevirtual 184, 70, 0, 161, 3, []), none, none, some (.ireturn, 71, 0, 0, 0, []), some (.aload_n 0, 72, 0, 0, 0, []), some (.invokevirtual 188, 75, 0, 162, 3, []), none, none, some (.ireturn, 76, 0, 0, 0, []), some (.aload_n 0, 77, 0, 0, 0, []), some (.getfield 69, 80, 0, 12, 24, []), none, none, some (.ireturn, 81, 0, 0, 0, []), some (.aload_n 0, 82, 0, 0, 0, []), some (.getfield 85, 85, 0, 12, 10, []), none, none, some (.ireturn, 86, 0, 0, 0, []), some (.aload_n 0, 87, 0, 0, 0, []), some (.getfield 65, 90, 0, 12, 8, []), none, none, some (.ireturn, 91, 0, 0, 0, []), some (.iconst (-1), 92, -1, 0, 0, []), some (.ireturn, 93, 0, 0, 0, [])]
def CD : List (List (Option En)) := [cd_0, cd_1, cd_2, cd_3, cd_4, cd_5, cd_6, cd_7, cd_8, cd_9, cd_10, cd_11, cd_12, cd_13, cd_14, cd_15, cd_16, cd_17, cd_18, cd_19, cd_20, cd_21, cd_22, cd_23, cd_24, cd_25, cd_26, cd_27, cd_28, cd_29, cd_30, cd_31, cd_32, cd_33, cd_34, cd_35, cd_36, cd_37, cd_38, cd_39, cd_40, cd_41, cd_42, cd_43, cd_44, cd_45, cd_46, cd_47, cd_48, cd_49, cd_50, cd_51, cd_52, cd_53, cd_54, cd_55, cd_56, cd_57, cd_58, cd_59, cd_60, cd_61, cd_62, cd_63, cd_64, cd_65, cd_66, cd_67, cd_68, cd_69, cd_70, cd_71, cd_72, cd_73, cd_74, cd_75, cd_76, cd_77, cd_78, cd_79, cd_80, cd_81, cd_82, cd_83, cd_84, cd_85, cd_86, cd_87, cd_88, cd_89, cd_90, cd_91, cd_92, cd_93, cd_94, cd_95, cd_96, cd_97, cd_98, cd_99, cd_100, cd_101, cd_102, cd_103, cd_104, cd_105, cd_106, cd_107, cd_108, cd_109, cd_110, cd_111, cd_112, cd_113, cd_114, cd_115, cd_116, cd_117, cd_118, cd_119, cd_120, cd_121, cd_122, cd_123, cd_124, cd_125, cd_126, cd_127, cd_128, cd_129, cd_130, cd_131, cd_132, cd_133, cd_134, cd_135, cd_136, cd_137, cd_138, cd_139, cd_140, cd_141, cd_142, cd_143, cd_144, cd_145, cd_146, cd_147, cd_148, cd_149, cd_150, cd_151, cd_152, cd_153, cd_154, cd_155, cd_156, cd_157, cd_158, cd_159, cd_160, cd_161, cd_162, cd_163]
def cdAt (k pc : Nat) : Option En := (CD.getD k []).getD pc none
end
section
/-! THE PURE MACHINE: ints as whole numbers in range, longs likewise, references as places in a list of shapes; contents by place and index -/
abbrev PV : Type := Int ⊕ (Int ⊕ Nat)
abbrev vI (x : Int) : PV := .inl x
abbrev vL (x : Int) : PV := .inr (.inl x)
abbrev vR (p : Nat) : PV := .inr (.inr p)
abbrev Shp : Type := (Bool × Nat) ⊕ (Nat × List (Option (Option Nat)))
abbrev Mu : Type := Nat → Int → Int
abbrev Mem : Type := List Shp × Mu × Nat × Nat
abbrev Lo : Type := List (Option PV)
def u2 (μ : Mu) (p : Nat) (i v : Int) : Mu := fun q => if q = p then (fun j => if j = i then v else μ p j) else μ q
def u0 (μ : Mu) (p : Nat) : Mu := fun q => if q = p then (fun _ => 0) else μ q
def cpM (μ : Mu) (p q : Nat) (sp dp n : Int) : Mu := fun z => if z = q then (fun j => if dp ≤ j ∧ j < dp + n then μ p (sp + (j - dp)) else μ q j) else μ z
def cmpI (c : ClassFile.Cond) (x y : Int) : Bool := match c with
  | .eq => decide (x = y)
  | .ne => decide (x ≠ y)
  | .lt => decide (x < y)
  | .ge => decide (y ≤ x)
  | .gt => decide (y < x)
  | .le => decide (x ≤ y)
abbrev iR (x : Int) : Prop := -2147483648 ≤ x ∧ x ≤ 2147483647
def isL (v : PV) : Bool := match v with
  | .inr (.inl _) => true
  | _ => false
/-- simple instructions -/
def stp (e : En) (ls : Lo) (st : List PV) (M : Mem) : Option (Nat × Lo × List PV × Mem) :=
  match e.1 with
  | .iconst _ => some (e.2.1, ls, vI e.2.2.1 :: st, M)
  | .bipush _ => some (e.2.1, ls, vI e.2.2.1 :: st, M)
  | .sipush _ => some (e.2.1, ls, vI e.2.2.1 :: st, M)
  | .lconst _ => some (e.2.1, ls, vL e.2.2.1 :: st, M)
  | .ldc2_w _ => some (e.2.1, ls, vL e.2.2.1 :: st, M)
  | .iload _ => match ls.getD e.2.2.2.1 none with
    | some (.inl x) => some (e.2.1, ls, vI x :: st, M)
    | _ => none
  | .iload_n _ => match ls.getD e.2.2.2.1 none with
    | some (.inl x) => some (e.2.1, ls, vI x :: st, M)
    | _ => none
  | .lload _ => match ls.getD e.2.2.2.1 none with
    | some (.inr (.inl x)) => some (e.2.1, ls, vL x :: st, M)
    | _ => none
  | .lload_n _ => match ls.getD e.2.2.2.1 none with
    | some (.inr (.inl x)) => some (e.2.1, ls, vL x :: st, M)
    | _ => none
  | .aload _ => match ls.getD e.2.2.2.1 none with
    | some (.inr (.inr x)) => some (e.2.1, ls, vR x :: st, M)
    | _ => none
  | .aload_n _ => match ls.getD e.2.2.2.1 none with
    | some (.inr (.inr x)) => some (e.2.1, ls, vR x :: st, M)
    | _ => none
  | .istore _ => match st with
    | .inl x :: st' => some (e.2.1, ls.set e.2.2.2.1 (some (vI x)), st', M)
    | _ => none
  | .istore_n _ => match st with
    | .inl x :: st' => some (e.2.1, ls.set e.2.2.2.1 (some (vI x)), st', M)
    | _ => none
  | .iinc _ _ => match ls.getD e.2.2.2.1 none with
    | some (.inl x) => if iR (x + e.2.2.1) then some (e.2.1, ls.set e.2.2.2.1 (some (vI (x + e.2.2.1))), st, M) else none
    | _ => none
  | .iadd => match st with
    | .inl y :: .inl x :: st' => if iR (x + y) then some (e.2.1, ls, vI (x + y) :: st', M) else none
    | _ => none
  | .isub => match st with
    | .inl y :: .inl x :: st' => if iR (x - y) then some (e.2.1, ls, vI (x - y) :: st', M) else none
    | _ => none
  | .imul => match st with
    | .inl y :: .inl x :: st' => if iR (x * y) then some (e.2.1, ls, vI (x * y) :: st', M) else none
    | _ => none
  | .idiv => match st with
    | .inl y :: .inl x :: st' => if 0 ≤ x ∧ 0 < y then some (e.2.1, ls, vI (x / y) :: st', M) else none
    | _ => none
  | .irem => match st with
    | .inl y :: .inl x :: st' => if 0 ≤ x ∧ 0 < y then some (e.2.1, ls, vI (x % y) :: st', M) else none
    | _ => none
  | .ishl => match st with
    | .inl y :: .inl x :: st' => if 0 ≤ x ∧ 0 ≤ y ∧ y < 31 ∧ x * 2 ^ y.toNat ≤ 2147483647 then some (e.2.1, ls, vI (x * 2 ^ y.toNat) :: st', M) else none
    | _ => none
  | .ishr => match st with
    | .inl y :: .inl x :: st' => if 0 ≤ x ∧ 0 ≤ y ∧ y < 31 then some (e.2.1, ls, vI (x / 2 ^ y.toNat) :: st', M) else none
    | _ => none
  | .iand => match st with
    | .inl y :: .inl x :: st' => if 0 ≤ x ∧ 0 ≤ y then some (e.2.1, ls, vI ((x.toNat &&& y.toNat : Nat) : Int) :: st', M) else none
    | _ => none
  | .ior => match st with
    | .inl y :: .inl x :: st' => if 0 ≤ x ∧ 0 ≤ y then some (e.2.1, ls, vI ((x.toNat ||| y.toNat : Nat) : Int) :: st', M) else none
    | _ => none
  | .ixor => match st with
    | .inl y :: .inl x :: st' => if 0 ≤ x ∧ 0 ≤ y then some (e.2.1, ls, vI ((x.toNat ^^^ y.toNat : Nat) : Int) :: st', M) else none
    | _ => none
  | .i2l => match st with
    | .inl x :: st' => some (e.2.1, ls, vL x :: st', M)
    | _ => none
  | .lcmp => match st with
    | .inr (.inl y) :: .inr (.inl x) :: st' => some (e.2.1, ls, vI (if y < x then 1 else if x = y then 0 else -1) :: st', M)
    | _ => none
  | .dup => match st with
    | v :: st' => if isL v then none else some (e.2.1, ls, v :: v :: st', M)
    | _ => none
  | .dup2 => match st with
    | v :: w :: st' => if isL v || isL w then none else some (e.2.1, ls, v :: w :: v :: w :: st', M)
    | _ => none
  | .goto _ => some (e.2.2.2.1, ls, st, M)
  | .if_icmp c _ => match st with
    | .inl y :: .inl x :: st' => some (if cmpI c x y then e.2.2.2.1 else e.2.1, ls, st', M)
    | _ => none
  | .ifCond c _ => match st with
    | .inl x :: st' => some (if cmpI c x 0 then e.2.2.2.1 else e.2.1, ls, st', M)
    | _ => none
  | .tableswitch _ lo hi _ => match st with
    | .inl x :: st' => some (if x < lo ∨ hi < x then e.2.2.2.2.2.getD 0 0 else e.2.2.2.2.2.getD (1 + (x - lo).toNat) 0, ls, st', M)
    | _ => none
  | .getfield _ => match st with
    | .inr (.inr p) :: st' => match M.1[p]? with
      | some (.inr (ci, fs)) => if ci = e.2.2.2.1 then match fs[e.2.2.2.2.1]? with
          | some none => some (e.2.1, ls, vI (M.2.1 p e.2.2.2.2.1) :: st', M)
          | some (some (some q)) => some (e.2.1, ls, vR q :: st', M)
          | _ => none
        else none
      | _ => none
    | _ => none
  | .putfield _ => match st with
    | .inl x :: .inr (.inr p) :: st' => match M.1[p]? with
      | some (.inr (ci, fs)) => if ci = e.2.2.2.1 then match fs[e.2.2.2.2.1]? with
          | some none => some (e.2.1, ls, st', (M.1, u2 M.2.1 p e.2.2.2.2.1 x, M.2.2))
          | _ => none
        else none
      | _ => none
    | .inr (.inr q) :: .inr (.inr p) :: st' => match M.1[p]? with
      | some (.inr (ci, fs)) => if ci = e.2.2.2.1 then match fs[e.2.2.2.2.1]? with
          | some (some _) => some (e.2.1, ls, st', (M.1.set p (.inr (ci, fs.set e.2.2.2.2.1 (some (some q)))), M.2))
          | _ => none
        else none
      | _ => none
    | _ => none
  | .iaload => match st with
    | .inl i :: .inr (.inr p) :: st' => match M.1[p]? with
      | some (.inl (false, n)) => if 0 ≤ i ∧ i < n then some (e.2.1, ls, vI (M.2.1 p i) :: st', M) else none
      | _ => none
    | _ => none
  | .baload => match st with
    | .inl i :: .inr (.inr p) :: st' => match M.1[p]? with
      | some (.inl (true, n)) => if 0 ≤ i ∧ i < n then some (e.2.1, ls, vI (M.2.1 p i) :: st', M) else none
      | _ => none
    | _ => none
  | .iastore => match st with
    | .inl x :: .inl i :: .inr (.inr p) :: st' => match M.1[p]? with
      | some (.inl (false, n)) => if 0 ≤ i ∧ i < n then some (e.2.1, ls, st', (M.1, u2 M.2.1 p i x, M.2.2)) else none
      | _ => none
    | _ => none
  | .bastore => match st with
    | .inl x :: .inl i :: .inr (.inr p) :: st' => match M.1[p]? with
      | some (.inl (true, n)) => if (0 ≤ i ∧ i < n) ∧ (x = 0 ∨ x = 1) then some (e.2.1, ls, st', (M.1, u2 M.2.1 p i x, M.2.2)) else none
      | _ => none
    | _ => none
  | .newarray _ => match st with
    | .inl n :: st' => if 0 ≤ n ∧ n ≤ 2147483647 ∧ n.toNat * 4 ≤ 536870912 ∧ 1 ≤ M.2.2.1 ∧ n.toNat ≤ M.2.2.2 then some (e.2.1, ls, vR M.1.length :: st', (M.1 ++ [.inl (e.2.2.2.1 == 1, n.toNat)], u0 M.2.1 M.1.length, M.2.2.1 - 1, M.2.2.2 - n.toNat)) else none
    | _ => none
  | .new _ => if 1 ≤ M.2.2.1 ∧ (bl e.2.2.2.1).length ≤ M.2.2.2 then some (e.2.1, ls, vR M.1.length :: st, (M.1 ++ [.inr (e.2.2.2.1, bl e.2.2.2.1)], u0 M.2.1 M.1.length, M.2.2.1 - 1, M.2.2.2 - (bl e.2.2.2.1).length)) else none
  | .invokestatic _ => if e.2.2.2.2.1 = 0 then (match st with
      | .inl y :: .inl x :: st' => if st'.length ≤ 4 then some (e.2.1, ls, vI (if x < y then y else x) :: st', M) else none
      | _ => none)
    else if e.2.2.2.2.1 = 1 then (match st with
      | .inl n :: .inl dp :: .inr (.inr q) :: .inl sp :: .inr (.inr p) :: st' => match M.1[p]?, M.1[q]? with
        | some (.inl (false, n0)), some (.inl (false, n1)) => if (0 ≤ sp ∧ 0 ≤ dp ∧ 0 ≤ n ∧ sp + n ≤ n0 ∧ dp + n ≤ n1) ∧ st'.length ≤ 4 then some (e.2.1, ls, st', (M.1, cpM M.2.1 p q sp dp n, M.2.2)) else none
        | _, _ => none
      | _ => none)
    else none
  | .invokespecial _ => if e.2.2.2.2.1 = 2 then (match st with
      | .inr (.inr _) :: st' => if st' = [] then some (e.2.1, ls, st', M) else none
      | _ => none) else none
  | _ => none
/-- a callee of this class's program, if the instruction is a call of one -/
def cee (e : En) : Option Nat := match e.1 with
  | .invokevirtual _ => if 3 ≤ e.2.2.2.2.1 then some e.2.2.2.1 else none
  | .invokestatic _ => if 3 ≤ e.2.2.2.2.1 then some e.2.2.2.1 else none
  | .invokespecial _ => if 3 ≤ e.2.2.2.2.1 then some e.2.2.2.1 else none
  | _ => none
/-- the locals at a method's entry -/
def sl2 (v : PV) : Lo := if isL v then [some v, none] else [some v]
def entL (k : Nat) (As : List PV) : Lo := As.flatMap sl2 ++ List.replicate (mL k - (As.flatMap sl2).length) none
/-- the arguments of a call fit -/
def argOk (j : Nat) (As : List PV) (S : List Shp) : Bool :=
  (!nL j || As.all (fun v => !isL v)) && decide ((As.flatMap sl2).length ≤ mL j) && (mZ j == 2 || (match As with
    | .inr (.inr p) :: _ => (match S[p]? with
      | some (.inr (ci, _)) => ci == mI j
      | _ => false)
    | _ => false))
def exec : Nat → Nat → Nat → Lo → List PV → Mem → Option (Option PV × Mem)
  | 0, _, _, _, _, _ => none
  | f + 1, k, pc, ls, st, M => match cdAt k pc with
    | none => none
    | some e => match e.1 with
      | .return_ => if mR k = 0 ∧ st = [] then some (none, M) else none
      | .ireturn => match st with
        | [.inl x] => if mR k = 1 ∨ (mR k = 2 ∧ (x = 0 ∨ x = 1)) then some (some (vI x), M) else none
        | _ => none
      | _ => match cee e with
        | some j => if mN j ≤ st.length ∧ (st.drop (mN j)).length ≤ 4 ∧ argOk j (st.take (mN j)).reverse M.1 = true ∧ mC j ≤ M.2.2.1 ∧ mS j ≤ M.2.2.2 then
            (match exec f j 0 (entL j (st.take (mN j)).reverse) [] (M.1, M.2.1, mC j, mS j) with
              | some (r, M') => exec f k e.2.1 ls (r.toList ++ st.drop (mN j)) (M'.1, M'.2.1, M.2.2.1 - mC j, M.2.2.2 - mS j)
              | none => none)
          else none
        | none => match stp e ls st M with
          | some (pc', ls', st', M') => exec f k pc' ls' st' M'
          | none => none
end
section
/-! WHAT A PROGRAM CHECKS, once: the tables against the words, the code against the bytes -/
def lwAt (i : Nat) (w : Cond) : Bool := decide (lw_tbl[i]? = some w)
theorem lwAt_mem {i : Nat} {w : Cond} (h : lwAt i w = true) : w ∈ lw_tbl := List.mem_of_getElem? (of_decide_eq_true h)
def clT (c : Nat) : u_T := (cls.getD c (RL, TX0, 0)).2.1
def clN (c : Nat) : Nat := (cls.getD c (RL, TX0, 0)).2.2
def fkc (q : Nat × Nat × Nat × Nat × Nat) : Bool := lwAt q.2.2.2.2 (.fieldLink (nmC q.1) q.2.1 (clT q.2.2.1 q.2.2.2.1).1 (clT q.2.2.1 q.2.2.2.1).2.1 (clT q.2.2.1 q.2.2.2.1).2.2.1) && decide (q.2.2.1 < 13 ∧ q.2.2.2.1 < clN q.2.2.1)
def mkc (q : Nat × Nat × Nat × Nat × Nat) : Bool := match q.2.2.1 with
  | 0 => lwAt q.2.2.2.2 (.methodLink (nmC q.1) q.2.1 Lib.Math.max.name)
  | 1 => lwAt q.2.2.2.2 (.methodLink (nmC q.1) q.2.1 arraycopyName)
  | 2 => lwAt q.2.2.2.2 (.methodLink (nmC q.1) q.2.1 Lib.objectInit)
  | 3 => lwAt q.2.2.2.2 (.methodLink (nmC q.1) q.2.1 (mY q.2.2.2.1)) && decide (q.2.2.2.1 < 164 ∧ mZ q.2.2.2.1 = 0)
  | 4 => lwAt q.2.2.2.2 (.methodLink (nmC q.1) q.2.1 (mY q.2.2.2.1)) && decide (q.2.2.2.1 < 164 ∧ mZ q.2.2.2.1 = 2 ∧ mI q.2.2.2.1 = q.1)
  | 5 => lwAt q.2.2.2.2 (.methodLinkNest (nmC q.1) q.2.1 (mY q.2.2.2.1) RX11) && decide (q.2.2.2.1 < 164 ∧ mZ q.2.2.2.1 = 2)
  | 6 => lwAt q.2.2.2.2 (.methodLink (nmC q.1) q.2.1 (mY q.2.2.2.1)) && decide (q.2.2.2.1 < 164 ∧ mZ q.2.2.2.1 = 1)
  | 7 => lwAt q.2.2.2.2 (.methodLinkNest (nmC q.1) q.2.1 (mY q.2.2.2.1) RX11) && decide (q.2.2.2.1 < 164 ∧ mZ q.2.2.2.1 = 1)
  | _ => false
def ckc (q : Nat × Nat × Nat × Nat × Nat) : Bool := lwAt q.2.2.2.1 (.classLink (nmC q.1) q.2.1 (nmC q.2.2.1)) && lwAt q.2.2.2.2 (.instantiable (nmC q.2.2.1) (clN q.2.2.1)) && decide (q.2.2.1 < 13 ∧ (bl q.2.2.1).length = clN q.2.2.1)
def kkc (q : Nat × Nat × Int × Nat) : Bool := lwAt q.2.2.2 (.constantLong (nmC q.1) q.2.1 (Int64.ofInt q.2.2.1)) && decide (iR q.2.2.1)
def mwc (k : Nat) : Bool :=
  (if mZ k = 2 then lwAt (MW.getD k (0, 0, 0)).2.1 (.static (mY k)) else lwAt (MW.getD k (0, 0, 0)).2.1 (.instanceMethod (mY k))) &&
  (if mZ k = 0 then lwAt (MW.getD k (0, 0, 0)).2.2 (.selects (nmC (mI k)) (mY k) (mY k)) else true) &&
  decide ((mY k).cls = nmC (mI k)) && decide (mI k < 13) && plainName (mY k).cls && decide ((mY k).cls ≠ "java/lang/invoke/MethodHandle" ∧ (mY k).cls ≠ "java/lang/invoke/VarHandle") &&
  decide ((parseMethodDescriptor (mY k).desc).map (fun d => d.parameters.length) = some (mN k - (if mZ k = 2 then 0 else 1))) &&
  decide (mZ k = 1 → (mY k).name = "<init>" ∧ mR k = 0) && decide (mR k ≤ 2) && decide (mZ k ≠ 2 → 1 ≤ mN k)
def cwc (c : Nat) : Bool := lwAt (IW.getD c 0) (.initialized (nmC c)) && (List.range (clN c)).all (fun f => lwAt ((LW.getD c []).getD f 0) (u_lay (nmC c) (clT c) f))
def tgc (pc : Nat) (t : Nat) (off : Int) : Bool := decide ((pc : Int) + off = (t : Int))
/-- an entry of the code against its instruction -/
def okI (k pc len : Nat) (e : En) : Bool := match e.1 with
  | .iconst n => len == 1 && e.2.1 == pc + 1 && decide (Int32.ofInt n = Int32.ofInt e.2.2.1 ∧ iR e.2.2.1)
  | .bipush n => len == 2 && e.2.1 == pc + 2 && decide ((Int8.ofInt n).toInt32 = Int32.ofInt e.2.2.1 ∧ iR e.2.2.1)
  | .sipush n => len == 3 && e.2.1 == pc + 3 && decide ((Int16.ofInt n).toInt32 = Int32.ofInt e.2.2.1 ∧ iR e.2.2.1)
  | .lconst n => len == 1 && e.2.1 == pc + 1 && decide (Int64.ofNat (n : Nat) = Int64.ofInt e.2.2.1 ∧ iR e.2.2.1)
  | .ldc2_w i => len == 3 && e.2.1 == pc + 3 && KK.any (fun q => q.1 == mI k && q.2.1 == i && decide (q.2.2.1 = e.2.2.1))
  | .iload i => len == 2 && e.2.1 == pc + 2 && e.2.2.2.1 == i
  | .iload_n i => len == 1 && e.2.1 == pc + 1 && e.2.2.2.1 == (i : Nat)
  | .lload i => len == 2 && e.2.1 == pc + 2 && e.2.2.2.1 == i
  | .lload_n i => len == 1 && e.2.1 == pc + 1 && e.2.2.2.1 == (i : Nat)
  | .aload i => len == 2 && e.2.1 == pc + 2 && e.2.2.2.1 == i
  | .aload_n i => len == 1 && e.2.1 == pc + 1 && e.2.2.2.1 == (i : Nat)
  | .istore i => len == 2 && e.2.1 == pc + 2 && e.2.2.2.1 == i && decide (i < mL k) && nL k
  | .istore_n i => len == 1 && e.2.1 == pc + 1 && e.2.2.2.1 == (i : Nat) && decide ((i : Nat) < mL k) && nL k
  | .iinc i n => len == 3 && e.2.1 == pc + 3 && e.2.2.2.1 == i && decide (i < mL k) && nL k && decide (Int32.ofInt n = Int32.ofInt e.2.2.1 ∧ iR e.2.2.1)
  | .goto off => len == 3 && tgc pc e.2.2.2.1 off
  | .if_icmp _ off => len == 3 && e.2.1 == pc + 3 && tgc pc e.2.2.2.1 off
  | .ifCond _ off => len == 3 && e.2.1 == pc + 3 && tgc pc e.2.2.2.1 off
  | .tableswitch d lo hi offs => tgc pc (e.2.2.2.2.2.getD 0 0) d && decide (0 ≤ lo ∧ lo ≤ hi ∧ hi < 100) && decide (offs.size = (hi - lo).toNat + 1) && (List.range ((hi - lo).toNat + 1)).all (fun j => tgc pc (e.2.2.2.2.2.getD (1 + j) 0) (offs.getD j 0))
  | .getfield i => len == 3 && e.2.1 == pc + 3 && FK.any (fun q => q.1 == mI k && q.2.1 == i && q.2.2.1 == e.2.2.2.1 && q.2.2.2.1 == e.2.2.2.2.1)
  | .putfield i => len == 3 && e.2.1 == pc + 3 && FK.any (fun q => q.1 == mI k && q.2.1 == i && q.2.2.1 == e.2.2.2.1 && q.2.2.2.1 == e.2.2.2.2.1) && (!(clT e.2.2.2.1 e.2.2.2.2.1).2.2.2 || (mZ k == 1 && decide ((clT e.2.2.2.1 e.2.2.2.2.1).1 = nmC (mI k))))
  | .new i => len == 3 && e.2.1 == pc + 3 && CK.any (fun q => q.1 == mI k && q.2.1 == i && q.2.2.1 == e.2.2.2.1)
  | .newarray t => len == 2 && e.2.1 == pc + 2 && ((decide (t = .int) && e.2.2.2.1 == 0) || (decide (t = .boolean) && e.2.2.2.1 == 1))
  | .invokevirtual i => len == 3 && e.2.1 == pc + 3 && e.2.2.2.2.1 == 3 && MK.any (fun q => q.1 == mI k && q.2.1 == i && q.2.2.1 == e.2.2.2.2.1 && q.2.2.2.1 == e.2.2.2.1) && decide (mF e.2.2.2.1 + 1 ≤ mF k ∧ 8 + (mL e.2.2.2.1 + 11) + mO e.2.2.2.1 ≤ mO k)
  | .invokestatic i => len == 3 && e.2.1 == pc + 3 && MK.any (fun q => q.1 == mI k && q.2.1 == i && q.2.2.1 == e.2.2.2.2.1 && q.2.2.2.1 == e.2.2.2.1) && (if e.2.2.2.2.1 = 0 then decide (1 ≤ mF k ∧ 21 ≤ mO k) else if e.2.2.2.2.1 = 1 then decide (1 ≤ mF k ∧ 26 ≤ mO k) else ((e.2.2.2.2.1 == 4 || e.2.2.2.2.1 == 5) && decide (mF e.2.2.2.1 + 1 ≤ mF k ∧ 8 + (mL e.2.2.2.1 + 11) + mO e.2.2.2.1 ≤ mO k)))
  | .invokespecial i => len == 3 && e.2.1 == pc + 3 && MK.any (fun q => q.1 == mI k && q.2.1 == i && q.2.2.1 == e.2.2.2.2.1 && q.2.2.2.1 == e.2.2.2.1) && (if e.2.2.2.2.1 = 2 then decide (1 ≤ mF k ∧ 12 ≤ mO k) else ((e.2.2.2.2.1 == 6 || e.2.2.2.2.1 == 7) && decide (mF e.2.2.2.1 + 1 ≤ mF k ∧ 8 + (mL e.2.2.2.1 + 11) + mO e.2.2.2.1 ≤ mO k)))
  | .return_ => len == 1
  | .ireturn => len == 1
  | _ => len == 1 && e.2.1 == pc + 1
def okE (k pc : Nat) (e : En) : Bool := match decode (mB k) pc with
  | .ok (i, len) => decide (i = e.1) && okI k pc len e
  | _ => false
def okM (k : Nat) : Bool := ((CD.getD k []).zipIdx).all (fun q => match q.1 with
  | none => true
  | some e => okE k q.2 e)
theorem fk_ok : FK.all fkc = true := by decide +kernel
theorem mk_ok : MK.all mkc = true := by decide +kernel
theorem ck_ok : CK.all ckc = true := by decide +kernel
theorem kk_ok : KK.all kkc = true := by decide +kernel
theorem cw_ok : (List.range 13).all cwc = true := by decide +kernel
theorem mw_ok1 : (List.range 60).all mwc = true := by decide +kernel
theorem mw_ok2 : ((List.range 60).map (· + 60)).all mwc = true := by decide +kernel
theorem mw_ok3 : ((List.range 44).map (· + 120)).all mwc = true := by decide +kernel
theorem jw_ok : (lwAt (JW.getD 0 0) (.static Lib.Math.max.name) && lwAt (JW.getD 1 0) (.initialized "java/lang/Math") && lwAt (JW.getD 2 0) (.code Lib.Math.max.name Lib.Math.max.code 2 (some .int)) && lwAt (JW.getD 3 0) (.native arraycopyName) && lwAt (JW.getD 4 0) (.static arraycopyName) && lwAt (JW.getD 5 0) (.initialized "java/lang/System") && lwAt (JW.getD 6 0) (.instanceMethod Lib.objectInit) && lwAt (JW.getD 7 0) (.code Lib.objectInit ⟨#[0xb1]⟩ 1 none) && lwAt (JW.getD 8 0) (.arrayClass .int) && lwAt (JW.getD 9 0) (.arrayClass .boolean)) = true := by decide +kernel
theorem cdl_ok : CD.length = 164 := by decide +kernel
theorem mtl_ok : MT.length = 164 := by decide +kernel
set_option maxRecDepth 100000 in
theorem kw_0 : Cond.code (mY 0) (mB 0) (mL 0) (rT (mR 0)) ∈ lw_tbl := List.mem_of_getElem? (i := 212) rfl
set_option maxRecDepth 100000 in
theorem kw_1 : Cond.code (mY 1) (mB 1) (mL 1) (rT (mR 1)) ∈ lw_tbl := List.mem_of_getElem? (i := 619) rfl
set_option maxRecDepth 100000 in
theorem kw_2 : Cond.code (mY 2) (mB 2) (mL 2) (rT (mR 2)) ∈ lw_tbl := List.mem_of_getElem? (i := 480) rfl
set_option maxRecDepth 100000 in
theorem kw_3 : Cond.code (mY 3) (mB 3) (mL 3) (rT (mR 3)) ∈ lw_tbl := List.mem_of_getElem? (i := 586) rfl
set_option maxRecDepth 100000 in
theorem kw_4 : Cond.code (mY 4) (mB 4) (mL 4) (rT (mR 4)) ∈ lw_tbl := List.mem_of_getElem? (i := 590) rfl
set_option maxRecDepth 100000 in
theorem kw_5 : Cond.code (mY 5) (mB 5) (mL 5) (rT (mR 5)) ∈ lw_tbl := List.mem_of_getElem? (i := 623) rfl
set_option maxRecDepth 100000 in
theorem kw_6 : Cond.code (mY 6) (mB 6) (mL 6) (rT (mR 6)) ∈ lw_tbl := List.mem_of_getElem? (i := 157) rfl
set_option maxRecDepth 100000 in
theorem kw_7 : Cond.code (mY 7) (mB 7) (mL 7) (rT (mR 7)) ∈ lw_tbl := List.mem_of_getElem? (i := 537) rfl
set_option maxRecDepth 100000 in
theorem kw_8 : Cond.code (mY 8) (mB 8) (mL 8) (rT (mR 8)) ∈ lw_tbl := List.mem_of_getElem? (i := 464) rfl
set_option maxRecDepth 100000 in
theorem kw_9 : Cond.code (mY 9) (mB 9) (mL 9) (rT (mR 9)) ∈ lw_tbl := List.mem_of_getElem? (i := 467) rfl
set_option maxRecDepth 100000 in
theorem kw_10 : Cond.code (mY 10) (mB 10) (mL 10) (rT (mR 10)) ∈ lw_tbl := List.mem_of_getElem? (i := 144) rfl
set_option maxRecDepth 100000 in
theorem kw_11 : Cond.code (mY 11) (mB 11) (mL 11) (rT (mR 11)) ∈ lw_tbl := List.mem_of_getElem? (i := 459) rfl
set_option maxRecDepth 100000 in
theorem kw_12 : Cond.code (mY 12) (mB 12) (mL 12) (rT (mR 12)) ∈ lw_tbl := List.mem_of_getElem? (i := 529) rfl
set_option maxRecDepth 100000 in
theorem kw_13 : Cond.code (mY 13) (mB 13) (mL 13) (rT (mR 13)) ∈ lw_tbl := List.mem_of_getElem? (i := 432) rfl
set_option maxRecDepth 100000 in
theorem kw_14 : Cond.code (mY 14) (mB 14) (mL 14) (rT (mR 14)) ∈ lw_tbl := List.mem_of_getElem? (i := 437) rfl
set_option maxRecDepth 100000 in
theorem kw_15 : Cond.code (mY 15) (mB 15) (mL 15) (rT (mR 15)) ∈ lw_tbl := List.mem_of_getElem? (i := 442) rfl
set_option maxRecDepth 100000 in
theorem kw_16 : Cond.code (mY 16) (mB 16) (mL 16) (rT (mR 16)) ∈ lw_tbl := List.mem_of_getElem? (i := 455) rfl
set_option maxRecDepth 100000 in
theorem kw_17 : Cond.code (mY 17) (mB 17) (mL 17) (rT (mR 17)) ∈ lw_tbl := List.mem_of_getElem? (i := 119) rfl
set_option maxRecDepth 100000 in
theorem kw_18 : Cond.code (mY 18) (mB 18) (mL 18) (rT (mR 18)) ∈ lw_tbl := List.mem_of_getElem? (i := 515) rfl
set_option maxRecDepth 100000 in
theorem kw_19 : Cond.code (mY 19) (mB 19) (mL 19) (rT (mR 19)) ∈ lw_tbl := List.mem_of_getElem? (i := 451) rfl
set_option maxRecDepth 100000 in
theorem kw_20 : Cond.code (mY 20) (mB 20) (mL 20) (rT (mR 20)) ∈ lw_tbl := List.mem_of_getElem? (i := 447) rfl
set_option maxRecDepth 100000 in
theorem kw_21 : Cond.code (mY 21) (mB 21) (mL 21) (rT (mR 21)) ∈ lw_tbl := List.mem_of_getElem? (i := 673) rfl
set_option maxRecDepth 100000 in
theorem kw_22 : Cond.code (mY 22) (mB 22) (mL 22) (rT (mR 22)) ∈ lw_tbl := List.mem_of_getElem? (i := 381) rfl
set_option maxRecDepth 100000 in
theorem kw_23 : Cond.code (mY 23) (mB 23) (mL 23) (rT (mR 23)) ∈ lw_tbl := List.mem_of_getElem? (i := 385) rfl
set_option maxRecDepth 100000 in
theorem kw_24 : Cond.code (mY 24) (mB 24) (mL 24) (rT (mR 24)) ∈ lw_tbl := List.mem_of_getElem? (i := 394) rfl
set_option maxRecDepth 100000 in
theorem kw_25 : Cond.code (mY 25) (mB 25) (mL 25) (rT (mR 25)) ∈ lw_tbl := List.mem_of_getElem? (i := 410) rfl
set_option maxRecDepth 100000 in
theorem kw_26 : Cond.code (mY 26) (mB 26) (mL 26) (rT (mR 26)) ∈ lw_tbl := List.mem_of_getElem? (i := 417) rfl
set_option maxRecDepth 100000 in
theorem kw_27 : Cond.code (mY 27) (mB 27) (mL 27) (rT (mR 27)) ∈ lw_tbl := List.mem_of_getElem? (i := 421) rfl
set_option maxRecDepth 100000 in
theorem kw_28 : Cond.code (mY 28) (mB 28) (mL 28) (rT (mR 28)) ∈ lw_tbl := List.mem_of_getElem? (i := 425) rfl
set_option maxRecDepth 100000 in
theorem kw_29 : Cond.code (mY 29) (mB 29) (mL 29) (rT (mR 29)) ∈ lw_tbl := List.mem_of_getElem? (i := 113) rfl
set_option maxRecDepth 100000 in
theorem kw_30 : Cond.code (mY 30) (mB 30) (mL 30) (rT (mR 30)) ∈ lw_tbl := List.mem_of_getElem? (i := 377) rfl
set_option maxRecDepth 100000 in
theorem kw_31 : Cond.code (mY 31) (mB 31) (mL 31) (rT (mR 31)) ∈ lw_tbl := List.mem_of_getElem? (i := 558) rfl
set_option maxRecDepth 100000 in
theorem kw_32 : Cond.code (mY 32) (mB 32) (mL 32) (rT (mR 32)) ∈ lw_tbl := List.mem_of_getElem? (i := 669) rfl
set_option maxRecDepth 100000 in
theorem kw_33 : Cond.code (mY 33) (mB 33) (mL 33) (rT (mR 33)) ∈ lw_tbl := List.mem_of_getElem? (i := 511) rfl
set_option maxRecDepth 100000 in
theorem kw_34 : Cond.code (mY 34) (mB 34) (mL 34) (rT (mR 34)) ∈ lw_tbl := List.mem_of_getElem? (i := 519) rfl
set_option maxRecDepth 100000 in
theorem kw_35 : Cond.code (mY 35) (mB 35) (mL 35) (rT (mR 35)) ∈ lw_tbl := List.mem_of_getElem? (i := 84) rfl
set_option maxRecDepth 100000 in
theorem kw_36 : Cond.code (mY 36) (mB 36) (mL 36) (rT (mR 36)) ∈ lw_tbl := List.mem_of_getElem? (i := 305) rfl
set_option maxRecDepth 100000 in
theorem kw_37 : Cond.code (mY 37) (mB 37) (mL 37) (rT (mR 37)) ∈ lw_tbl := List.mem_of_getElem? (i := 313) rfl
set_option maxRecDepth 100000 in
theorem kw_38 : Cond.code (mY 38) (mB 38) (mL 38) (rT (mR 38)) ∈ lw_tbl := List.mem_of_getElem? (i := 326) rfl
set_option maxRecDepth 100000 in
theorem kw_39 : Cond.code (mY 39) (mB 39) (mL 39) (rT (mR 39)) ∈ lw_tbl := List.mem_of_getElem? (i := 330) rfl
set_option maxRecDepth 100000 in
theorem kw_40 : Cond.code (mY 40) (mB 40) (mL 40) (rT (mR 40)) ∈ lw_tbl := List.mem_of_getElem? (i := 338) rfl
set_option maxRecDepth 100000 in
theorem kw_41 : Cond.code (mY 41) (mB 41) (mL 41) (rT (mR 41)) ∈ lw_tbl := List.mem_of_getElem? (i := 342) rfl
set_option maxRecDepth 100000 in
theorem kw_42 : Cond.code (mY 42) (mB 42) (mL 42) (rT (mR 42)) ∈ lw_tbl := List.mem_of_getElem? (i := 94) rfl
set_option maxRecDepth 100000 in
theorem kw_43 : Cond.code (mY 43) (mB 43) (mL 43) (rT (mR 43)) ∈ lw_tbl := List.mem_of_getElem? (i := 496) rfl
set_option maxRecDepth 100000 in
theorem kw_44 : Cond.code (mY 44) (mB 44) (mL 44) (rT (mR 44)) ∈ lw_tbl := List.mem_of_getElem? (i := 366) rfl
set_option maxRecDepth 100000 in
theorem kw_45 : Cond.code (mY 45) (mB 45) (mL 45) (rT (mR 45)) ∈ lw_tbl := List.mem_of_getElem? (i := 406) rfl
set_option maxRecDepth 100000 in
theorem kw_46 : Cond.code (mY 46) (mB 46) (mL 46) (rT (mR 46)) ∈ lw_tbl := List.mem_of_getElem? (i := 398) rfl
set_option maxRecDepth 100000 in
theorem kw_47 : Cond.code (mY 47) (mB 47) (mL 47) (rT (mR 47)) ∈ lw_tbl := List.mem_of_getElem? (i := 390) rfl
set_option maxRecDepth 100000 in
theorem kw_48 : Cond.code (mY 48) (mB 48) (mL 48) (rT (mR 48)) ∈ lw_tbl := List.mem_of_getElem? (i := 402) rfl
set_option maxRecDepth 100000 in
theorem kw_49 : Cond.code (mY 49) (mB 49) (mL 49) (rT (mR 49)) ∈ lw_tbl := List.mem_of_getElem? (i := 722) rfl
set_option maxRecDepth 100000 in
theorem kw_50 : Cond.code (mY 50) (mB 50) (mL 50) (rT (mR 50)) ∈ lw_tbl := List.mem_of_getElem? (i := 309) rfl
set_option maxRecDepth 100000 in
theorem kw_51 : Cond.code (mY 51) (mB 51) (mL 51) (rT (mR 51)) ∈ lw_tbl := List.mem_of_getElem? (i := 334) rfl
set_option maxRecDepth 100000 in
theorem kw_52 : Cond.code (mY 52) (mB 52) (mL 52) (rT (mR 52)) ∈ lw_tbl := List.mem_of_getElem? (i := 362) rfl
set_option maxRecDepth 100000 in
theorem kw_53 : Cond.code (mY 53) (mB 53) (mL 53) (rT (mR 53)) ∈ lw_tbl := List.mem_of_getElem? (i := 350) rfl
set_option maxRecDepth 100000 in
theorem kw_54 : Cond.code (mY 54) (mB 54) (mL 54) (rT (mR 54)) ∈ lw_tbl := List.mem_of_getElem? (i := 346) rfl
set_option maxRecDepth 100000 in
theorem kw_55 : Cond.code (mY 55) (mB 55) (mL 55) (rT (mR 55)) ∈ lw_tbl := List.mem_of_getElem? (i := 370) rfl
set_option maxRecDepth 100000 in
theorem kw_56 : Cond.code (mY 56) (mB 56) (mL 56) (rT (mR 56)) ∈ lw_tbl := List.mem_of_getElem? (i := 180) rfl
set_option maxRecDepth 100000 in
theorem kw_57 : Cond.code (mY 57) (mB 57) (mL 57) (rT (mR 57)) ∈ lw_tbl := List.mem_of_getElem? (i := 476) rfl
set_option maxRecDepth 100000 in
theorem kw_58 : Cond.code (mY 58) (mB 58) (mL 58) (rT (mR 58)) ∈ lw_tbl := List.mem_of_getElem? (i := 582) rfl
set_option maxRecDepth 100000 in
theorem kw_59 : Cond.code (mY 59) (mB 59) (mL 59) (rT (mR 59)) ∈ lw_tbl := List.mem_of_getElem? (i := 627) rfl
set_option maxRecDepth 100000 in
theorem kw_60 : Cond.code (mY 60) (mB 60) (mL 60) (rT (mR 60)) ∈ lw_tbl := List.mem_of_getElem? (i := 578) rfl
set_option maxRecDepth 100000 in
theorem kw_61 : Cond.code (mY 61) (mB 61) (mL 61) (rT (mR 61)) ∈ lw_tbl := List.mem_of_getElem? (i := 594) rfl
set_option maxRecDepth 100000 in
theorem kw_62 : Cond.code (mY 62) (mB 62) (mL 62) (rT (mR 62)) ∈ lw_tbl := List.mem_of_getElem? (i := 525) rfl
set_option maxRecDepth 100000 in
theorem kw_63 : Cond.code (mY 63) (mB 63) (mL 63) (rT (mR 63)) ∈ lw_tbl := List.mem_of_getElem? (i := 714) rfl
set_option maxRecDepth 100000 in
theorem kw_64 : Cond.code (mY 64) (mB 64) (mL 64) (rT (mR 64)) ∈ lw_tbl := List.mem_of_getElem? (i := 533) rfl
set_option maxRecDepth 100000 in
theorem kw_65 : Cond.code (mY 65) (mB 65) (mL 65) (rT (mR 65)) ∈ lw_tbl := List.mem_of_getElem? (i := 602) rfl
set_option maxRecDepth 100000 in
theorem kw_66 : Cond.code (mY 66) (mB 66) (mL 66) (rT (mR 66)) ∈ lw_tbl := List.mem_of_getElem? (i := 718) rfl
set_option maxRecDepth 100000 in
theorem kw_67 : Cond.code (mY 67) (mB 67) (mL 67) (rT (mR 67)) ∈ lw_tbl := List.mem_of_getElem? (i := 507) rfl
set_option maxRecDepth 100000 in
theorem kw_68 : Cond.code (mY 68) (mB 68) (mL 68) (rT (mR 68)) ∈ lw_tbl := List.mem_of_getElem? (i := 610) rfl
set_option maxRecDepth 100000 in
theorem kw_69 : Cond.code (mY 69) (mB 69) (mL 69) (rT (mR 69)) ∈ lw_tbl := List.mem_of_getElem? (i := 225) rfl
set_option maxRecDepth 100000 in
theorem kw_70 : Cond.code (mY 70) (mB 70) (mL 70) (rT (mR 70)) ∈ lw_tbl := List.mem_of_getElem? (i := 681) rfl
set_option maxRecDepth 100000 in
theorem kw_71 : Cond.code (mY 71) (mB 71) (mL 71) (rT (mR 71)) ∈ lw_tbl := List.mem_of_getElem? (i := 484) rfl
set_option maxRecDepth 100000 in
theorem kw_72 : Cond.code (mY 72) (mB 72) (mL 72) (rT (mR 72)) ∈ lw_tbl := List.mem_of_getElem? (i := 685) rfl
set_option maxRecDepth 100000 in
theorem kw_73 : Cond.code (mY 73) (mB 73) (mL 73) (rT (mR 73)) ∈ lw_tbl := List.mem_of_getElem? (i := 697) rfl
set_option maxRecDepth 100000 in
theorem kw_74 : Cond.code (mY 74) (mB 74) (mL 74) (rT (mR 74)) ∈ lw_tbl := List.mem_of_getElem? (i := 70) rfl
set_option maxRecDepth 100000 in
theorem kw_75 : Cond.code (mY 75) (mB 75) (mL 75) (rT (mR 75)) ∈ lw_tbl := List.mem_of_getElem? (i := 285) rfl
set_option maxRecDepth 100000 in
theorem kw_76 : Cond.code (mY 76) (mB 76) (mL 76) (rT (mR 76)) ∈ lw_tbl := List.mem_of_getElem? (i := 289) rfl
set_option maxRecDepth 100000 in
theorem kw_77 : Cond.code (mY 77) (mB 77) (mL 77) (rT (mR 77)) ∈ lw_tbl := List.mem_of_getElem? (i := 297) rfl
set_option maxRecDepth 100000 in
theorem kw_78 : Cond.code (mY 78) (mB 78) (mL 78) (rT (mR 78)) ∈ lw_tbl := List.mem_of_getElem? (i := 317) rfl
set_option maxRecDepth 100000 in
theorem kw_79 : Cond.code (mY 79) (mB 79) (mL 79) (rT (mR 79)) ∈ lw_tbl := List.mem_of_getElem? (i := 321) rfl
set_option maxRecDepth 100000 in
theorem kw_80 : Cond.code (mY 80) (mB 80) (mL 80) (rT (mR 80)) ∈ lw_tbl := List.mem_of_getElem? (i := 357) rfl
set_option maxRecDepth 100000 in
theorem kw_81 : Cond.code (mY 81) (mB 81) (mL 81) (rT (mR 81)) ∈ lw_tbl := List.mem_of_getElem? (i := 196) rfl
set_option maxRecDepth 100000 in
theorem kw_82 : Cond.code (mY 82) (mB 82) (mL 82) (rT (mR 82)) ∈ lw_tbl := List.mem_of_getElem? (i := 566) rfl
set_option maxRecDepth 100000 in
theorem kw_83 : Cond.code (mY 83) (mB 83) (mL 83) (rT (mR 83)) ∈ lw_tbl := List.mem_of_getElem? (i := 570) rfl
set_option maxRecDepth 100000 in
theorem kw_84 : Cond.code (mY 84) (mB 84) (mL 84) (rT (mR 84)) ∈ lw_tbl := List.mem_of_getElem? (i := 562) rfl
set_option maxRecDepth 100000 in
theorem kw_85 : Cond.code (mY 85) (mB 85) (mL 85) (rT (mR 85)) ∈ lw_tbl := List.mem_of_getElem? (i := 492) rfl
set_option maxRecDepth 100000 in
theorem kw_86 : Cond.code (mY 86) (mB 86) (mL 86) (rT (mR 86)) ∈ lw_tbl := List.mem_of_getElem? (i := 502) rfl
set_option maxRecDepth 100000 in
theorem kw_87 : Cond.code (mY 87) (mB 87) (mL 87) (rT (mR 87)) ∈ lw_tbl := List.mem_of_getElem? (i := 62) rfl
set_option maxRecDepth 100000 in
theorem kw_88 : Cond.code (mY 88) (mB 88) (mL 88) (rT (mR 88)) ∈ lw_tbl := List.mem_of_getElem? (i := 281) rfl
set_option maxRecDepth 100000 in
theorem kw_89 : Cond.code (mY 89) (mB 89) (mL 89) (rT (mR 89)) ∈ lw_tbl := List.mem_of_getElem? (i := 293) rfl
set_option maxRecDepth 100000 in
theorem kw_90 : Cond.code (mY 90) (mB 90) (mL 90) (rT (mR 90)) ∈ lw_tbl := List.mem_of_getElem? (i := 301) rfl
set_option maxRecDepth 100000 in
theorem kw_91 : Cond.code (mY 91) (mB 91) (mL 91) (rT (mR 91)) ∈ lw_tbl := List.mem_of_getElem? (i := 544) rfl
set_option maxRecDepth 100000 in
theorem kw_92 : Cond.code (mY 92) (mB 92) (mL 92) (rT (mR 92)) ∈ lw_tbl := List.mem_of_getElem? (i := 552) rfl
set_option maxRecDepth 100000 in
theorem kw_93 : Cond.code (mY 93) (mB 93) (mL 93) (rT (mR 93)) ∈ lw_tbl := List.mem_of_getElem? (i := 574) rfl
set_option maxRecDepth 100000 in
theorem kw_94 : Cond.code (mY 94) (mB 94) (mL 94) (rT (mR 94)) ∈ lw_tbl := List.mem_of_getElem? (i := 598) rfl
set_option maxRecDepth 100000 in
theorem kw_95 : Cond.code (mY 95) (mB 95) (mL 95) (rT (mR 95)) ∈ lw_tbl := List.mem_of_getElem? (i := 606) rfl
set_option maxRecDepth 100000 in
theorem kw_96 : Cond.code (mY 96) (mB 96) (mL 96) (rT (mR 96)) ∈ lw_tbl := List.mem_of_getElem? (i := 615) rfl
set_option maxRecDepth 100000 in
theorem kw_97 : Cond.code (mY 97) (mB 97) (mL 97) (rT (mR 97)) ∈ lw_tbl := List.mem_of_getElem? (i := 631) rfl
set_option maxRecDepth 100000 in
theorem kw_98 : Cond.code (mY 98) (mB 98) (mL 98) (rT (mR 98)) ∈ lw_tbl := List.mem_of_getElem? (i := 636) rfl
set_option maxRecDepth 100000 in
theorem kw_99 : Cond.code (mY 99) (mB 99) (mL 99) (rT (mR 99)) ∈ lw_tbl := List.mem_of_getElem? (i := 640) rfl
set_option maxRecDepth 100000 in
theorem kw_100 : Cond.code (mY 100) (mB 100) (mL 100) (rT (mR 100)) ∈ lw_tbl := List.mem_of_getElem? (i := 648) rfl
set_option maxRecDepth 100000 in
theorem kw_101 : Cond.code (mY 101) (mB 101) (mL 101) (rT (mR 101)) ∈ lw_tbl := List.mem_of_getElem? (i := 656) rfl
set_option maxRecDepth 100000 in
theorem kw_102 : Cond.code (mY 102) (mB 102) (mL 102) (rT (mR 102)) ∈ lw_tbl := List.mem_of_getElem? (i := 661) rfl
set_option maxRecDepth 100000 in
theorem kw_103 : Cond.code (mY 103) (mB 103) (mL 103) (rT (mR 103)) ∈ lw_tbl := List.mem_of_getElem? (i := 665) rfl
set_option maxRecDepth 100000 in
theorem kw_104 : Cond.code (mY 104) (mB 104) (mL 104) (rT (mR 104)) ∈ lw_tbl := List.mem_of_getElem? (i := 677) rfl
set_option maxRecDepth 100000 in
theorem kw_105 : Cond.code (mY 105) (mB 105) (mL 105) (rT (mR 105)) ∈ lw_tbl := List.mem_of_getElem? (i := 689) rfl
set_option maxRecDepth 100000 in
theorem kw_106 : Cond.code (mY 106) (mB 106) (mL 106) (rT (mR 106)) ∈ lw_tbl := List.mem_of_getElem? (i := 693) rfl
set_option maxRecDepth 100000 in
theorem kw_107 : Cond.code (mY 107) (mB 107) (mL 107) (rT (mR 107)) ∈ lw_tbl := List.mem_of_getElem? (i := 702) rfl
set_option maxRecDepth 100000 in
theorem kw_108 : Cond.code (mY 108) (mB 108) (mL 108) (rT (mR 108)) ∈ lw_tbl := List.mem_of_getElem? (i := 706) rfl
set_option maxRecDepth 100000 in
theorem kw_109 : Cond.code (mY 109) (mB 109) (mL 109) (rT (mR 109)) ∈ lw_tbl := List.mem_of_getElem? (i := 710) rfl
set_option maxRecDepth 100000 in
theorem kw_110 : Cond.code (mY 110) (mB 110) (mL 110) (rT (mR 110)) ∈ lw_tbl := List.mem_of_getElem? (i := 488) rfl
set_option maxRecDepth 100000 in
theorem kw_111 : Cond.code (mY 111) (mB 111) (mL 111) (rT (mR 111)) ∈ lw_tbl := List.mem_of_getElem? (i := 652) rfl
set_option maxRecDepth 100000 in
theorem kw_112 : Cond.code (mY 112) (mB 112) (mL 112) (rT (mR 112)) ∈ lw_tbl := List.mem_of_getElem? (i := 644) rfl
set_option maxRecDepth 100000 in
theorem kw_113 : Cond.code (mY 113) (mB 113) (mL 113) (rT (mR 113)) ∈ lw_tbl := List.mem_of_getElem? (i := 726) rfl
set_option maxRecDepth 100000 in
theorem kw_114 : Cond.code (mY 114) (mB 114) (mL 114) (rT (mR 114)) ∈ lw_tbl := List.mem_of_getElem? (i := 353) rfl
set_option maxRecDepth 100000 in
theorem kw_115 : Cond.code (mY 115) (mB 115) (mL 115) (rT (mR 115)) ∈ lw_tbl := List.mem_of_getElem? (i := 428) rfl
set_option maxRecDepth 100000 in
theorem kw_116 : Cond.code (mY 116) (mB 116) (mL 116) (rT (mR 116)) ∈ lw_tbl := List.mem_of_getElem? (i := 731) rfl
set_option maxRecDepth 100000 in
theorem kw_117 : Cond.code (mY 117) (mB 117) (mL 117) (rT (mR 117)) ∈ lw_tbl := List.mem_of_getElem? (i := 736) rfl
set_option maxRecDepth 100000 in
theorem kw_118 : Cond.code (mY 118) (mB 118) (mL 118) (rT (mR 118)) ∈ lw_tbl := List.mem_of_getElem? (i := 826) rfl
set_option maxRecDepth 100000 in
theorem kw_119 : Cond.code (mY 119) (mB 119) (mL 119) (rT (mR 119)) ∈ lw_tbl := List.mem_of_getElem? (i := 877) rfl
set_option maxRecDepth 100000 in
theorem kw_120 : Cond.code (mY 120) (mB 120) (mL 120) (rT (mR 120)) ∈ lw_tbl := List.mem_of_getElem? (i := 874) rfl
set_option maxRecDepth 100000 in
theorem kw_121 : Cond.code (mY 121) (mB 121) (mL 121) (rT (mR 121)) ∈ lw_tbl := List.mem_of_getElem? (i := 885) rfl
set_option maxRecDepth 100000 in
theorem kw_122 : Cond.code (mY 122) (mB 122) (mL 122) (rT (mR 122)) ∈ lw_tbl := List.mem_of_getElem? (i := 822) rfl
set_option maxRecDepth 100000 in
theorem kw_123 : Cond.code (mY 123) (mB 123) (mL 123) (rT (mR 123)) ∈ lw_tbl := List.mem_of_getElem? (i := 830) rfl
set_option maxRecDepth 100000 in
theorem kw_124 : Cond.code (mY 124) (mB 124) (mL 124) (rT (mR 124)) ∈ lw_tbl := List.mem_of_getElem? (i := 838) rfl
set_option maxRecDepth 100000 in
theorem kw_125 : Cond.code (mY 125) (mB 125) (mL 125) (rT (mR 125)) ∈ lw_tbl := List.mem_of_getElem? (i := 850) rfl
set_option maxRecDepth 100000 in
theorem kw_126 : Cond.code (mY 126) (mB 126) (mL 126) (rT (mR 126)) ∈ lw_tbl := List.mem_of_getElem? (i := 854) rfl
set_option maxRecDepth 100000 in
theorem kw_127 : Cond.code (mY 127) (mB 127) (mL 127) (rT (mR 127)) ∈ lw_tbl := List.mem_of_getElem? (i := 846) rfl
set_option maxRecDepth 100000 in
theorem kw_128 : Cond.code (mY 128) (mB 128) (mL 128) (rT (mR 128)) ∈ lw_tbl := List.mem_of_getElem? (i := 834) rfl
set_option maxRecDepth 100000 in
theorem kw_129 : Cond.code (mY 129) (mB 129) (mL 129) (rT (mR 129)) ∈ lw_tbl := List.mem_of_getElem? (i := 866) rfl
set_option maxRecDepth 100000 in
theorem kw_130 : Cond.code (mY 130) (mB 130) (mL 130) (rT (mR 130)) ∈ lw_tbl := List.mem_of_getElem? (i := 862) rfl
set_option maxRecDepth 100000 in
theorem kw_131 : Cond.code (mY 131) (mB 131) (mL 131) (rT (mR 131)) ∈ lw_tbl := List.mem_of_getElem? (i := 858) rfl
set_option maxRecDepth 100000 in
theorem kw_132 : Cond.code (mY 132) (mB 132) (mL 132) (rT (mR 132)) ∈ lw_tbl := List.mem_of_getElem? (i := 901) rfl
set_option maxRecDepth 100000 in
theorem kw_133 : Cond.code (mY 133) (mB 133) (mL 133) (rT (mR 133)) ∈ lw_tbl := List.mem_of_getElem? (i := 909) rfl
set_option maxRecDepth 100000 in
theorem kw_134 : Cond.code (mY 134) (mB 134) (mL 134) (rT (mR 134)) ∈ lw_tbl := List.mem_of_getElem? (i := 905) rfl
set_option maxRecDepth 100000 in
theorem kw_135 : Cond.code (mY 135) (mB 135) (mL 135) (rT (mR 135)) ∈ lw_tbl := List.mem_of_getElem? (i := 913) rfl
set_option maxRecDepth 100000 in
theorem kw_136 : Cond.code (mY 136) (mB 136) (mL 136) (rT (mR 136)) ∈ lw_tbl := List.mem_of_getElem? (i := 897) rfl
set_option maxRecDepth 100000 in
theorem kw_137 : Cond.code (mY 137) (mB 137) (mL 137) (rT (mR 137)) ∈ lw_tbl := List.mem_of_getElem? (i := 917) rfl
set_option maxRecDepth 100000 in
theorem kw_138 : Cond.code (mY 138) (mB 138) (mL 138) (rT (mR 138)) ∈ lw_tbl := List.mem_of_getElem? (i := 893) rfl
set_option maxRecDepth 100000 in
theorem kw_139 : Cond.code (mY 139) (mB 139) (mL 139) (rT (mR 139)) ∈ lw_tbl := List.mem_of_getElem? (i := 889) rfl
set_option maxRecDepth 100000 in
theorem kw_140 : Cond.code (mY 140) (mB 140) (mL 140) (rT (mR 140)) ∈ lw_tbl := List.mem_of_getElem? (i := 870) rfl
set_option maxRecDepth 100000 in
theorem kw_141 : Cond.code (mY 141) (mB 141) (mL 141) (rT (mR 141)) ∈ lw_tbl := List.mem_of_getElem? (i := 881) rfl
set_option maxRecDepth 100000 in
theorem kw_142 : Cond.code (mY 142) (mB 142) (mL 142) (rT (mR 142)) ∈ lw_tbl := List.mem_of_getElem? (i := 926) rfl
set_option maxRecDepth 100000 in
theorem kw_143 : Cond.code (mY 143) (mB 143) (mL 143) (rT (mR 143)) ∈ lw_tbl := List.mem_of_getElem? (i := 921) rfl
set_option maxRecDepth 100000 in
theorem kw_144 : Cond.code (mY 144) (mB 144) (mL 144) (rT (mR 144)) ∈ lw_tbl := List.mem_of_getElem? (i := 930) rfl
set_option maxRecDepth 100000 in
theorem kw_145 : Cond.code (mY 145) (mB 145) (mL 145) (rT (mR 145)) ∈ lw_tbl := List.mem_of_getElem? (i := 934) rfl
set_option maxRecDepth 100000 in
theorem kw_146 : Cond.code (mY 146) (mB 146) (mL 146) (rT (mR 146)) ∈ lw_tbl := List.mem_of_getElem? (i := 939) rfl
set_option maxRecDepth 100000 in
theorem kw_147 : Cond.code (mY 147) (mB 147) (mL 147) (rT (mR 147)) ∈ lw_tbl := List.mem_of_getElem? (i := 943) rfl
set_option maxRecDepth 100000 in
theorem kw_148 : Cond.code (mY 148) (mB 148) (mL 148) (rT (mR 148)) ∈ lw_tbl := List.mem_of_getElem? (i := 947) rfl
set_option maxRecDepth 100000 in
theorem kw_149 : Cond.code (mY 149) (mB 149) (mL 149) (rT (mR 149)) ∈ lw_tbl := List.mem_of_getElem? (i := 951) rfl
set_option maxRecDepth 100000 in
theorem kw_150 : Cond.code (mY 150) (mB 150) (mL 150) (rT (mR 150)) ∈ lw_tbl := List.mem_of_getElem? (i := 959) rfl
set_option maxRecDepth 100000 in
theorem kw_151 : Cond.code (mY 151) (mB 151) (mL 151) (rT (mR 151)) ∈ lw_tbl := List.mem_of_getElem? (i := 955) rfl
set_option maxRecDepth 100000 in
theorem kw_152 : Cond.code (mY 152) (mB 152) (mL 152) (rT (mR 152)) ∈ lw_tbl := List.mem_of_getElem? (i := 963) rfl
set_option maxRecDepth 100000 in
theorem kw_153 : Cond.code (mY 153) (mB 153) (mL 153) (rT (mR 153)) ∈ lw_tbl := List.mem_of_getElem? (i := 967) rfl
set_option maxRecDepth 100000 in
theorem kw_154 : Cond.code (mY 154) (mB 154) (mL 154) (rT (mR 154)) ∈ lw_tbl := List.mem_of_getElem? (i := 971) rfl
set_option maxRecDepth 100000 in
theorem kw_155 : Cond.code (mY 155) (mB 155) (mL 155) (rT (mR 155)) ∈ lw_tbl := List.mem_of_getElem? (i := 975) rfl
set_option maxRecDepth 100000 in
theorem kw_156 : Cond.code (mY 156) (mB 156) (mL 156) (rT (mR 156)) ∈ lw_tbl := List.mem_of_getElem? (i := 979) rfl
set_option maxRecDepth 100000 in
theorem kw_157 : Cond.code (mY 157) (mB 157) (mL 157) (rT (mR 157)) ∈ lw_tbl := List.mem_of_getElem? (i := 987) rfl
set_option maxRecDepth 100000 in
theorem kw_158 : Cond.code (mY 158) (mB 158) (mL 158) (rT (mR 158)) ∈ lw_tbl := List.mem_of_getElem? (i := 983) rfl
set_option maxRecDepth 100000 in
theorem kw_159 : Cond.code (mY 159) (mB 159) (mL 159) (rT (mR 159)) ∈ lw_tbl := List.mem_of_getElem? (i := 991) rfl
set_option maxRecDepth 100000 in
theorem kw_160 : Cond.code (mY 160) (mB 160) (mL 160) (rT (mR 160)) ∈ lw_tbl := List.mem_of_getElem? (i := 995) rfl
set_option maxRecDepth 100000 in
theorem kw_161 : Cond.code (mY 161) (mB 161) (mL 161) (rT (mR 161)) ∈ lw_tbl := List.mem_of_getElem? (i := 1003) rfl
set_option maxRecDepth 100000 in
theorem kw_162 : Cond.code (mY 162) (mB 162) (mL 162) (rT (mR 162)) ∈ lw_tbl := List.mem_of_getElem? (i := 1007) rfl
set_option maxRecDepth 100000 in
theorem kw_163 : Cond.code (mY 163) (mB 163) (mL 163) (rT (mR 163)) ∈ lw_tbl := List.mem_of_getElem? (i := 999) rfl
theorem kw_a0 : ∀ k, k < 0 → Cond.code (mY k) (mB k) (mL k) (rT (mR k)) ∈ lw_tbl := lt_0
theorem kw_a1 : ∀ k, k < 1 → Cond.code (mY k) (mB k) (mL k) (rT (mR k)) ∈ lw_tbl := lt_s kw_a0 kw_0
theorem kw_a2 : ∀ k, k < 2 → Cond.code (mY k) (mB k) (mL k) (rT (mR k)) ∈ lw_tbl := lt_s kw_a1 kw_1
theorem kw_a3 : ∀ k, k < 3 → Cond.code (mY k) (mB k) (mL k) (rT (mR k)) ∈ lw_tbl := lt_s kw_a2 kw_2
theorem kw_a4 : ∀ k, k < 4 → Cond.code (mY k) (mB k) (mL k) (rT (mR k)) ∈ lw_tbl := lt_s kw_a3 kw_3
theorem kw_a5 : ∀ k, k < 5 → Cond.code (mY k) (mB k) (mL k) (rT (mR k)) ∈ lw_tbl := lt_s kw_a4 kw_4
theorem kw_a6 : ∀ k, k < 6 → Cond.code (mY k) (mB k) (mL k) (rT (mR k)) ∈ lw_tbl := lt_s kw_a5 kw_5
theorem kw_a7 : ∀ k, k < 7 → Cond.code (mY k) (mB k) (mL k) (rT (mR k)) ∈ lw_tbl := lt_s kw_a6 kw_6
theorem kw_a8 : ∀ k, k < 8 → Cond.code (mY k) (mB k) (mL k) (rT (mR k)) ∈ lw_tbl := lt_s kw_a7 kw_7
theorem kw_a9 : ∀ k, k < 9 → Cond.code (mY k) (mB k) (mL k) (rT (mR k)) ∈ lw_tbl := lt_s kw_a8 kw_8
theorem kw_a10 : ∀ k, k < 10 → Cond.code (mY k) (mB k) (mL k) (rT (mR k)) ∈ lw_tbl := lt_s kw_a9 kw_9
theorem kw_a11 : ∀ k, k < 11 → Cond.code (mY k) (mB k) (mL k) (rT (mR k)) ∈ lw_tbl := lt_s kw_a10 kw_10
theorem kw_a12 : ∀ k, k < 12 → Cond.code (mY k) (mB k) (mL k) (rT (mR k)) ∈ lw_tbl := lt_s kw_a11 kw_11
theorem kw_a13 : ∀ k, k < 13 → Cond.code (mY k) (mB k) (mL k) (rT (mR k)) ∈ lw_tbl := lt_s kw_a12 kw_12
theorem kw_a14 : ∀ k, k < 14 → Cond.code (mY k) (mB k) (mL k) (rT (mR k)) ∈ lw_tbl := lt_s kw_a13 kw_13
theorem kw_a15 : ∀ k, k < 15 → Cond.code (mY k) (mB k) (mL k) (rT (mR k)) ∈ lw_tbl := lt_s kw_a14 kw_14
theorem kw_a16 : ∀ k, k < 16 → Cond.code (mY k) (mB k) (mL k) (rT (mR k)) ∈ lw_tbl := lt_s kw_a15 kw_15
theorem kw_a17 : ∀ k, k < 17 → Cond.code (mY k) (mB k) (mL k) (rT (mR k)) ∈ lw_tbl := lt_s kw_a16 kw_16
theorem kw_a18 : ∀ k, k < 18 → Cond.code (mY k) (mB k) (mL k) (rT (mR k)) ∈ lw_tbl := lt_s kw_a17 kw_17
theorem kw_a19 : ∀ k, k < 19 → Cond.code (mY k) (mB k) (mL k) (rT (mR k)) ∈ lw_tbl := lt_s kw_a18 kw_18
theorem kw_a20 : ∀ k, k < 20 → Cond.code (mY k) (mB k) (mL k) (rT (mR k)) ∈ lw_tbl := lt_s kw_a19 kw_19
theorem kw_a21 : ∀ k, k < 21 → Cond.code (mY k) (mB k) (mL k) (rT (mR k)) ∈ lw_tbl := lt_s kw_a20 kw_20
theorem kw_a22 : ∀ k, k < 22 → Cond.code (mY k) (mB k) (mL k) (rT (mR k)) ∈ lw_tbl := lt_s kw_a21 kw_21
theorem kw_a23 : ∀ k, k < 23 → Cond.code (mY k) (mB k) (mL k) (rT (mR k)) ∈ lw_tbl := lt_s kw_a22 kw_22
theorem kw_a24 : ∀ k, k < 24 → Cond.code (mY k) (mB k) (mL k) (rT (mR k)) ∈ lw_tbl := lt_s kw_a23 kw_23
theorem kw_a25 : ∀ k, k < 25 → Cond.code (mY k) (mB k) (mL k) (rT (mR k)) ∈ lw_tbl := lt_s kw_a24 kw_24
theorem kw_a26 : ∀ k, k < 26 → Cond.code (mY k) (mB k) (mL k) (rT (mR k)) ∈ lw_tbl := lt_s kw_a25 kw_25
theorem kw_a27 : ∀ k, k < 27 → Cond.code (mY k) (mB k) (mL k) (rT (mR k)) ∈ lw_tbl := lt_s kw_a26 kw_26
theorem kw_a28 : ∀ k, k < 28 → Cond.code (mY k) (mB k) (mL k) (rT (mR k)) ∈ lw_tbl := lt_s kw_a27 kw_27
theorem kw_a29 : ∀ k, k < 29 → Cond.code (mY k) (mB k) (mL k) (rT (mR k)) ∈ lw_tbl := lt_s kw_a28 kw_28
theorem kw_a30 : ∀ k, k < 30 → Cond.code (mY k) (mB k) (mL k) (rT (mR k)) ∈ lw_tbl := lt_s kw_a29 kw_29
theorem kw_a31 : ∀ k, k < 31 → Cond.code (mY k) (mB k) (mL k) (rT (mR k)) ∈ lw_tbl := lt_s kw_a30 kw_30
theorem kw_a32 : ∀ k, k < 32 → Cond.code (mY k) (mB k) (mL k) (rT (mR k)) ∈ lw_tbl := lt_s kw_a31 kw_31
theorem kw_a33 : ∀ k, k < 33 → Cond.code (mY k) (mB k) (mL k) (rT (mR k)) ∈ lw_tbl := lt_s kw_a32 kw_32
theorem kw_a34 : ∀ k, k < 34 → Cond.code (mY k) (mB k) (mL k) (rT (mR k)) ∈ lw_tbl := lt_s kw_a33 kw_33
theorem kw_a35 : ∀ k, k < 35 → Cond.code (mY k) (mB k) (mL k) (rT (mR k)) ∈ lw_tbl := lt_s kw_a34 kw_34
theorem kw_a36 : ∀ k, k < 36 → Cond.code (mY k) (mB k) (mL k) (rT (mR k)) ∈ lw_tbl := lt_s kw_a35 kw_35
theorem kw_a37 : ∀ k, k < 37 → Cond.code (mY k) (mB k) (mL k) (rT (mR k)) ∈ lw_tbl := lt_s kw_a36 kw_36
theorem kw_a38 : ∀ k, k < 38 → Cond.code (mY k) (mB k) (mL k) (rT (mR k)) ∈ lw_tbl := lt_s kw_a37 kw_37
theorem kw_a39 : ∀ k, k < 39 → Cond.code (mY k) (mB k) (mL k) (rT (mR k)) ∈ lw_tbl := lt_s kw_a38 kw_38
theorem kw_a40 : ∀ k, k < 40 → Cond.code (mY k) (mB k) (mL k) (rT (mR k)) ∈ lw_tbl := lt_s kw_a39 kw_39
theorem kw_a41 : ∀ k, k < 41 → Cond.code (mY k) (mB k) (mL k) (rT (mR k)) ∈ lw_tbl := lt_s kw_a40 kw_40
theorem kw_a42 : ∀ k, k < 42 → Cond.code (mY k) (mB k) (mL k) (rT (mR k)) ∈ lw_tbl := lt_s kw_a41 kw_41
theorem kw_a43 : ∀ k, k < 43 → Cond.code (mY k) (mB k) (mL k) (rT (mR k)) ∈ lw_tbl := lt_s kw_a42 kw_42
theorem kw_a44 : ∀ k, k < 44 → Cond.code (mY k) (mB k) (mL k) (rT (mR k)) ∈ lw_tbl := lt_s kw_a43 kw_43
theorem kw_a45 : ∀ k, k < 45 → Cond.code (mY k) (mB k) (mL k) (rT (mR k)) ∈ lw_tbl := lt_s kw_a44 kw_44
theorem kw_a46 : ∀ k, k < 46 → Cond.code (mY k) (mB k) (mL k) (rT (mR k)) ∈ lw_tbl := lt_s kw_a45 kw_45
theorem kw_a47 : ∀ k, k < 47 → Cond.code (mY k) (mB k) (mL k) (rT (mR k)) ∈ lw_tbl := lt_s kw_a46 kw_46
theorem kw_a48 : ∀ k, k < 48 → Cond.code (mY k) (mB k) (mL k) (rT (mR k)) ∈ lw_tbl := lt_s kw_a47 kw_47
theorem kw_a49 : ∀ k, k < 49 → Cond.code (mY k) (mB k) (mL k) (rT (mR k)) ∈ lw_tbl := lt_s kw_a48 kw_48
theorem kw_a50 : ∀ k, k < 50 → Cond.code (mY k) (mB k) (mL k) (rT (mR k)) ∈ lw_tbl := lt_s kw_a49 kw_49
theorem kw_a51 : ∀ k, k < 51 → Cond.code (mY k) (mB k) (mL k) (rT (mR k)) ∈ lw_tbl := lt_s kw_a50 kw_50
theorem kw_a52 : ∀ k, k < 52 → Cond.code (mY k) (mB k) (mL k) (rT (mR k)) ∈ lw_tbl := lt_s kw_a51 kw_51
theorem kw_a53 : ∀ k, k < 53 → Cond.code (mY k) (mB k) (mL k) (rT (mR k)) ∈ lw_tbl := lt_s kw_a52 kw_52
theorem kw_a54 : ∀ k, k < 54 → Cond.code (mY k) (mB k) (mL k) (rT (mR k)) ∈ lw_tbl := lt_s kw_a53 kw_53
theorem kw_a55 : ∀ k, k < 55 → Cond.code (mY k) (mB k) (mL k) (rT (mR k)) ∈ lw_tbl := lt_s kw_a54 kw_54
theorem kw_a56 : ∀ k, k < 56 → Cond.code (mY k) (mB k) (mL k) (rT (mR k)) ∈ lw_tbl := lt_s kw_a55 kw_55
theorem kw_a57 : ∀ k, k < 57 → Cond.code (mY k) (mB k) (mL k) (rT (mR k)) ∈ lw_tbl := lt_s kw_a56 kw_56
theorem kw_a58 : ∀ k, k < 58 → Cond.code (mY k) (mB k) (mL k) (rT (mR k)) ∈ lw_tbl := lt_s kw_a57 kw_57
theorem kw_a59 : ∀ k, k < 59 → Cond.code (mY k) (mB k) (mL k) (rT (mR k)) ∈ lw_tbl := lt_s kw_a58 kw_58
theorem kw_a60 : ∀ k, k < 60 → Cond.code (mY k) (mB k) (mL k) (rT (mR k)) ∈ lw_tbl := lt_s kw_a59 kw_59
theorem kw_a61 : ∀ k, k < 61 → Cond.code (mY k) (mB k) (mL k) (rT (mR k)) ∈ lw_tbl := lt_s kw_a60 kw_60
theorem kw_a62 : ∀ k, k < 62 → Cond.code (mY k) (mB k) (mL k) (rT (mR k)) ∈ lw_tbl := lt_s kw_a61 kw_61
theorem kw_a63 : ∀ k, k < 63 → Cond.code (mY k) (mB k) (mL k) (rT (mR k)) ∈ lw_tbl := lt_s kw_a62 kw_62
theorem kw_a64 : ∀ k, k < 64 → Cond.code (mY k) (mB k) (mL k) (rT (mR k)) ∈ lw_tbl := lt_s kw_a63 kw_63
theorem kw_a65 : ∀ k, k < 65 → Cond.code (mY k) (mB k) (mL k) (rT (mR k)) ∈ lw_tbl := lt_s kw_a64 kw_64
theorem kw_a66 : ∀ k, k < 66 → Cond.code (mY k) (mB k) (mL k) (rT (mR k)) ∈ lw_tbl := lt_s kw_a65 kw_65
theorem kw_a67 : ∀ k, k < 67 → Cond.code (mY k) (mB k) (mL k) (rT (mR k)) ∈ lw_tbl := lt_s kw_a66 kw_66
theorem kw_a68 : ∀ k, k < 68 → Cond.code (mY k) (mB k) (mL k) (rT (mR k)) ∈ lw_tbl := lt_s kw_a67 kw_67
theorem kw_a69 : ∀ k, k < 69 → Cond.code (mY k) (mB k) (mL k) (rT (mR k)) ∈ lw_tbl := lt_s kw_a68 kw_68
theorem kw_a70 : ∀ k, k < 70 → Cond.code (mY k) (mB k) (mL k) (rT (mR k)) ∈ lw_tbl := lt_s kw_a69 kw_69
theorem kw_a71 : ∀ k, k < 71 → Cond.code (mY k) (mB k) (mL k) (rT (mR k)) ∈ lw_tbl := lt_s kw_a70 kw_70
theorem kw_a72 : ∀ k, k < 72 → Cond.code (mY k) (mB k) (mL k) (rT (mR k)) ∈ lw_tbl := lt_s kw_a71 kw_71
theorem kw_a73 : ∀ k, k < 73 → Cond.code (mY k) (mB k) (mL k) (rT (mR k)) ∈ lw_tbl := lt_s kw_a72 kw_72
theorem kw_a74 : ∀ k, k < 74 → Cond.code (mY k) (mB k) (mL k) (rT (mR k)) ∈ lw_tbl := lt_s kw_a73 kw_73
theorem kw_a75 : ∀ k, k < 75 → Cond.code (mY k) (mB k) (mL k) (rT (mR k)) ∈ lw_tbl := lt_s kw_a74 kw_74
theorem kw_a76 : ∀ k, k < 76 → Cond.code (mY k) (mB k) (mL k) (rT (mR k)) ∈ lw_tbl := lt_s kw_a75 kw_75
theorem kw_a77 : ∀ k, k < 77 → Cond.code (mY k) (mB k) (mL k) (rT (mR k)) ∈ lw_tbl := lt_s kw_a76 kw_76
theorem kw_a78 : ∀ k, k < 78 → Cond.code (mY k) (mB k) (mL k) (rT (mR k)) ∈ lw_tbl := lt_s kw_a77 kw_77
theorem kw_a79 : ∀ k, k < 79 → Cond.code (mY k) (mB k) (mL k) (rT (mR k)) ∈ lw_tbl := lt_s kw_a78 kw_78
theorem kw_a80 : ∀ k, k < 80 → Cond.code (mY k) (mB k) (mL k) (rT (mR k)) ∈ lw_tbl := lt_s kw_a79 kw_79
theorem kw_a81 : ∀ k, k < 81 → Cond.code (mY k) (mB k) (mL k) (rT (mR k)) ∈ lw_tbl := lt_s kw_a80 kw_80
theorem kw_a82 : ∀ k, k < 82 → Cond.code (mY k) (mB k) (mL k) (rT (mR k)) ∈ lw_tbl := lt_s kw_a81 kw_81
theorem kw_a83 : ∀ k, k < 83 → Cond.code (mY k) (mB k) (mL k) (rT (mR k)) ∈ lw_tbl := lt_s kw_a82 kw_82
theorem kw_a84 : ∀ k, k < 84 → Cond.code (mY k) (mB k) (mL k) (rT (mR k)) ∈ lw_tbl := lt_s kw_a83 kw_83
theorem kw_a85 : ∀ k, k < 85 → Cond.code (mY k) (mB k) (mL k) (rT (mR k)) ∈ lw_tbl := lt_s kw_a84 kw_84
theorem kw_a86 : ∀ k, k < 86 → Cond.code (mY k) (mB k) (mL k) (rT (mR k)) ∈ lw_tbl := lt_s kw_a85 kw_85
theorem kw_a87 : ∀ k, k < 87 → Cond.code (mY k) (mB k) (mL k) (rT (mR k)) ∈ lw_tbl := lt_s kw_a86 kw_86
theorem kw_a88 : ∀ k, k < 88 → Cond.code (mY k) (mB k) (mL k) (rT (mR k)) ∈ lw_tbl := lt_s kw_a87 kw_87
theorem kw_a89 : ∀ k, k < 89 → Cond.code (mY k) (mB k) (mL k) (rT (mR k)) ∈ lw_tbl := lt_s kw_a88 kw_88
theorem kw_a90 : ∀ k, k < 90 → Cond.code (mY k) (mB k) (mL k) (rT (mR k)) ∈ lw_tbl := lt_s kw_a89 kw_89
theorem kw_a91 : ∀ k, k < 91 → Cond.code (mY k) (mB k) (mL k) (rT (mR k)) ∈ lw_tbl := lt_s kw_a90 kw_90
theorem kw_a92 : ∀ k, k < 92 → Cond.code (mY k) (mB k) (mL k) (rT (mR k)) ∈ lw_tbl := lt_s kw_a91 kw_91
theorem kw_a93 : ∀ k, k < 93 → Cond.code (mY k) (mB k) (mL k) (rT (mR k)) ∈ lw_tbl := lt_s kw_a92 kw_92
theorem kw_a94 : ∀ k, k < 94 → Cond.code (mY k) (mB k) (mL k) (rT (mR k)) ∈ lw_tbl := lt_s kw_a93 kw_93
theorem kw_a95 : ∀ k, k < 95 → Cond.code (mY k) (mB k) (mL k) (rT (mR k)) ∈ lw_tbl := lt_s kw_a94 kw_94
theorem kw_a96 : ∀ k, k < 96 → Cond.code (mY k) (mB k) (mL k) (rT (mR k)) ∈ lw_tbl := lt_s kw_a95 kw_95
theorem kw_a97 : ∀ k, k < 97 → Cond.code (mY k) (mB k) (mL k) (rT (mR k)) ∈ lw_tbl := lt_s kw_a96 kw_96
theorem kw_a98 : ∀ k, k < 98 → Cond.code (mY k) (mB k) (mL k) (rT (mR k)) ∈ lw_tbl := lt_s kw_a97 kw_97
theorem kw_a99 : ∀ k, k < 99 → Cond.code (mY k) (mB k) (mL k) (rT (mR k)) ∈ lw_tbl := lt_s kw_a98 kw_98
theorem kw_a100 : ∀ k, k < 100 → Cond.code (mY k) (mB k) (mL k) (rT (mR k)) ∈ lw_tbl := lt_s kw_a99 kw_99
theorem kw_a101 : ∀ k, k < 101 → Cond.code (mY k) (mB k) (mL k) (rT (mR k)) ∈ lw_tbl := lt_s kw_a100 kw_100
theorem kw_a102 : ∀ k, k < 102 → Cond.code (mY k) (mB k) (mL k) (rT (mR k)) ∈ lw_tbl := lt_s kw_a101 kw_101
theorem kw_a103 : ∀ k, k < 103 → Cond.code (mY k) (mB k) (mL k) (rT (mR k)) ∈ lw_tbl := lt_s kw_a102 kw_102
theorem kw_a104 : ∀ k, k < 104 → Cond.code (mY k) (mB k) (mL k) (rT (mR k)) ∈ lw_tbl := lt_s kw_a103 kw_103
theorem kw_a105 : ∀ k, k < 105 → Cond.code (mY k) (mB k) (mL k) (rT (mR k)) ∈ lw_tbl := lt_s kw_a104 kw_104
theorem kw_a106 : ∀ k, k < 106 → Cond.code (mY k) (mB k) (mL k) (rT (mR k)) ∈ lw_tbl := lt_s kw_a105 kw_105
theorem kw_a107 : ∀ k, k < 107 → Cond.code (mY k) (mB k) (mL k) (rT (mR k)) ∈ lw_tbl := lt_s kw_a106 kw_106
theorem kw_a108 : ∀ k, k < 108 → Cond.code (mY k) (mB k) (mL k) (rT (mR k)) ∈ lw_tbl := lt_s kw_a107 kw_107
theorem kw_a109 : ∀ k, k < 109 → Cond.code (mY k) (mB k) (mL k) (rT (mR k)) ∈ lw_tbl := lt_s kw_a108 kw_108
theorem kw_a110 : ∀ k, k < 110 → Cond.code (mY k) (mB k) (mL k) (rT (mR k)) ∈ lw_tbl := lt_s kw_a109 kw_109
theorem kw_a111 : ∀ k, k < 111 → Cond.code (mY k) (mB k) (mL k) (rT (mR k)) ∈ lw_tbl := lt_s kw_a110 kw_110
theorem kw_a112 : ∀ k, k < 112 → Cond.code (mY k) (mB k) (mL k) (rT (mR k)) ∈ lw_tbl := lt_s kw_a111 kw_111
theorem kw_a113 : ∀ k, k < 113 → Cond.code (mY k) (mB k) (mL k) (rT (mR k)) ∈ lw_tbl := lt_s kw_a112 kw_112
theorem kw_a114 : ∀ k, k < 114 → Cond.code (mY k) (mB k) (mL k) (rT (mR k)) ∈ lw_tbl := lt_s kw_a113 kw_113
theorem kw_a115 : ∀ k, k < 115 → Cond.code (mY k) (mB k) (mL k) (rT (mR k)) ∈ lw_tbl := lt_s kw_a114 kw_114
theorem kw_a116 : ∀ k, k < 116 → Cond.code (mY k) (mB k) (mL k) (rT (mR k)) ∈ lw_tbl := lt_s kw_a115 kw_115
theorem kw_a117 : ∀ k, k < 117 → Cond.code (mY k) (mB k) (mL k) (rT (mR k)) ∈ lw_tbl := lt_s kw_a116 kw_116
theorem kw_a118 : ∀ k, k < 118 → Cond.code (mY k) (mB k) (mL k) (rT (mR k)) ∈ lw_tbl := lt_s kw_a117 kw_117
theorem kw_a119 : ∀ k, k < 119 → Cond.code (mY k) (mB k) (mL k) (rT (mR k)) ∈ lw_tbl := lt_s kw_a118 kw_118
theorem kw_a120 : ∀ k, k < 120 → Cond.code (mY k) (mB k) (mL k) (rT (mR k)) ∈ lw_tbl := lt_s kw_a119 kw_119
theorem kw_a121 : ∀ k, k < 121 → Cond.code (mY k) (mB k) (mL k) (rT (mR k)) ∈ lw_tbl := lt_s kw_a120 kw_120
theorem kw_a122 : ∀ k, k < 122 → Cond.code (mY k) (mB k) (mL k) (rT (mR k)) ∈ lw_tbl := lt_s kw_a121 kw_121
theorem kw_a123 : ∀ k, k < 123 → Cond.code (mY k) (mB k) (mL k) (rT (mR k)) ∈ lw_tbl := lt_s kw_a122 kw_122
theorem kw_a124 : ∀ k, k < 124 → Cond.code (mY k) (mB k) (mL k) (rT (mR k)) ∈ lw_tbl := lt_s kw_a123 kw_123
theorem kw_a125 : ∀ k, k < 125 → Cond.code (mY k) (mB k) (mL k) (rT (mR k)) ∈ lw_tbl := lt_s kw_a124 kw_124
theorem kw_a126 : ∀ k, k < 126 → Cond.code (mY k) (mB k) (mL k) (rT (mR k)) ∈ lw_tbl := lt_s kw_a125 kw_125
theorem kw_a127 : ∀ k, k < 127 → Cond.code (mY k) (mB k) (mL k) (rT (mR k)) ∈ lw_tbl := lt_s kw_a126 kw_126
theorem kw_a128 : ∀ k, k < 128 → Cond.code (mY k) (mB k) (mL k) (rT (mR k)) ∈ lw_tbl := lt_s kw_a127 kw_127
theorem kw_a129 : ∀ k, k < 129 → Cond.code (mY k) (mB k) (mL k) (rT (mR k)) ∈ lw_tbl := lt_s kw_a128 kw_128
theorem kw_a130 : ∀ k, k < 130 → Cond.code (mY k) (mB k) (mL k) (rT (mR k)) ∈ lw_tbl := lt_s kw_a129 kw_129
theorem kw_a131 : ∀ k, k < 131 → Cond.code (mY k) (mB k) (mL k) (rT (mR k)) ∈ lw_tbl := lt_s kw_a130 kw_130
theorem kw_a132 : ∀ k, k < 132 → Cond.code (mY k) (mB k) (mL k) (rT (mR k)) ∈ lw_tbl := lt_s kw_a131 kw_131
theorem kw_a133 : ∀ k, k < 133 → Cond.code (mY k) (mB k) (mL k) (rT (mR k)) ∈ lw_tbl := lt_s kw_a132 kw_132
theorem kw_a134 : ∀ k, k < 134 → Cond.code (mY k) (mB k) (mL k) (rT (mR k)) ∈ lw_tbl := lt_s kw_a133 kw_133
theorem kw_a135 : ∀ k, k < 135 → Cond.code (mY k) (mB k) (mL k) (rT (mR k)) ∈ lw_tbl := lt_s kw_a134 kw_134
theorem kw_a136 : ∀ k, k < 136 → Cond.code (mY k) (mB k) (mL k) (rT (mR k)) ∈ lw_tbl := lt_s kw_a135 kw_135
theorem kw_a137 : ∀ k, k < 137 → Cond.code (mY k) (mB k) (mL k) (rT (mR k)) ∈ lw_tbl := lt_s kw_a136 kw_136
theorem kw_a138 : ∀ k, k < 138 → Cond.code (mY k) (mB k) (mL k) (rT (mR k)) ∈ lw_tbl := lt_s kw_a137 kw_137
theorem kw_a139 : ∀ k, k < 139 → Cond.code (mY k) (mB k) (mL k) (rT (mR k)) ∈ lw_tbl := lt_s kw_a138 kw_138
theorem kw_a140 : ∀ k, k < 140 → Cond.code (mY k) (mB k) (mL k) (rT (mR k)) ∈ lw_tbl := lt_s kw_a139 kw_139
theorem kw_a141 : ∀ k, k < 141 → Cond.code (mY k) (mB k) (mL k) (rT (mR k)) ∈ lw_tbl := lt_s kw_a140 kw_140
theorem kw_a142 : ∀ k, k < 142 → Cond.code (mY k) (mB k) (mL k) (rT (mR k)) ∈ lw_tbl := lt_s kw_a141 kw_141
theorem kw_a143 : ∀ k, k < 143 → Cond.code (mY k) (mB k) (mL k) (rT (mR k)) ∈ lw_tbl := lt_s kw_a142 kw_142
theorem kw_a144 : ∀ k, k < 144 → Cond.code (mY k) (mB k) (mL k) (rT (mR k)) ∈ lw_tbl := lt_s kw_a143 kw_143
theorem kw_a145 : ∀ k, k < 145 → Cond.code (mY k) (mB k) (mL k) (rT (mR k)) ∈ lw_tbl := lt_s kw_a144 kw_144
theorem kw_a146 : ∀ k, k < 146 → Cond.code (mY k) (mB k) (mL k) (rT (mR k)) ∈ lw_tbl := lt_s kw_a145 kw_145
theorem kw_a147 : ∀ k, k < 147 → Cond.code (mY k) (mB k) (mL k) (rT (mR k)) ∈ lw_tbl := lt_s kw_a146 kw_146
theorem kw_a148 : ∀ k, k < 148 → Cond.code (mY k) (mB k) (mL k) (rT (mR k)) ∈ lw_tbl := lt_s kw_a147 kw_147
theorem kw_a149 : ∀ k, k < 149 → Cond.code (mY k) (mB k) (mL k) (rT (mR k)) ∈ lw_tbl := lt_s kw_a148 kw_148
theorem kw_a150 : ∀ k, k < 150 → Cond.code (mY k) (mB k) (mL k) (rT (mR k)) ∈ lw_tbl := lt_s kw_a149 kw_149
theorem kw_a151 : ∀ k, k < 151 → Cond.code (mY k) (mB k) (mL k) (rT (mR k)) ∈ lw_tbl := lt_s kw_a150 kw_150
theorem kw_a152 : ∀ k, k < 152 → Cond.code (mY k) (mB k) (mL k) (rT (mR k)) ∈ lw_tbl := lt_s kw_a151 kw_151
theorem kw_a153 : ∀ k, k < 153 → Cond.code (mY k) (mB k) (mL k) (rT (mR k)) ∈ lw_tbl := lt_s kw_a152 kw_152
theorem kw_a154 : ∀ k, k < 154 → Cond.code (mY k) (mB k) (mL k) (rT (mR k)) ∈ lw_tbl := lt_s kw_a153 kw_153
theorem kw_a155 : ∀ k, k < 155 → Cond.code (mY k) (mB k) (mL k) (rT (mR k)) ∈ lw_tbl := lt_s kw_a154 kw_154
theorem kw_a156 : ∀ k, k < 156 → Cond.code (mY k) (mB k) (mL k) (rT (mR k)) ∈ lw_tbl := lt_s kw_a155 kw_155
theorem kw_a157 : ∀ k, k < 157 → Cond.code (mY k) (mB k) (mL k) (rT (mR k)) ∈ lw_tbl := lt_s kw_a156 kw_156
theorem kw_a158 : ∀ k, k < 158 → Cond.code (mY k) (mB k) (mL k) (rT (mR k)) ∈ lw_tbl := lt_s kw_a157 kw_157
theorem kw_a159 : ∀ k, k < 159 → Cond.code (mY k) (mB k) (mL k) (rT (mR k)) ∈ lw_tbl := lt_s kw_a158 kw_158
theorem kw_a160 : ∀ k, k < 160 → Cond.code (mY k) (mB k) (mL k) (rT (mR k)) ∈ lw_tbl := lt_s kw_a159 kw_159
theorem kw_a161 : ∀ k, k < 161 → Cond.code (mY k) (mB k) (mL k) (rT (mR k)) ∈ lw_tbl := lt_s kw_a160 kw_160
theorem kw_a162 : ∀ k, k < 162 → Cond.code (mY k) (mB k) (mL k) (rT (mR k)) ∈ lw_tbl := lt_s kw_a161 kw_161
theorem kw_a163 : ∀ k, k < 163 → Cond.code (mY k) (mB k) (mL k) (rT (mR k)) ∈ lw_tbl := lt_s kw_a162 kw_162
theorem kw_a164 : ∀ k, k < 164 → Cond.code (mY k) (mB k) (mL k) (rT (mR k)) ∈ lw_tbl := lt_s kw_a163 kw_163
end
section
/-! the code against the bytes, method by method -/
theorem om_0 : okM 0 = true := by decide +kernel
theorem om_1 : okM 1 = true := by decide +kernel
theorem om_2 : okM 2 = true := by decide +kernel
theorem om_3 : okM 3 = true := by decide +kernel
theorem om_4 : okM 4 = true := by decide +kernel
theorem om_5 : okM 5 = true := by decide +kernel
theorem om_6 : okM 6 = true := by decide +kernel
theorem om_7 : okM 7 = true := by decide +kernel
theorem om_8 : okM 8 = true := by decide +kernel
theorem om_9 : okM 9 = true := by decide +kernel
theorem om_10 : okM 10 = true := by decide +kernel
theorem om_11 : okM 11 = true := by decide +kernel
theorem om_12 : okM 12 = true := by decide +kernel
theorem om_13 : okM 13 = true := by decide +kernel
theorem om_14 : okM 14 = true := by decide +kernel
theorem om_15 : okM 15 = true := by decide +kernel
theorem om_16 : okM 16 = true := by decide +kernel
theorem om_17 : okM 17 = true := by decide +kernel
theorem om_18 : okM 18 = true := by decide +kernel
theorem om_19 : okM 19 = true := by decide +kernel
theorem om_20 : okM 20 = true := by decide +kernel
theorem om_21 : okM 21 = true := by decide +kernel
theorem om_22 : okM 22 = true := by decide +kernel
theorem om_23 : okM 23 = true := by decide +kernel
theorem om_24 : okM 24 = true := by decide +kernel
theorem om_25 : okM 25 = true := by decide +kernel
theorem om_26 : okM 26 = true := by decide +kernel
theorem om_27 : okM 27 = true := by decide +kernel
theorem om_28 : okM 28 = true := by decide +kernel
theorem om_29 : okM 29 = true := by decide +kernel
theorem om_30 : okM 30 = true := by decide +kernel
theorem om_31 : okM 31 = true := by decide +kernel
theorem om_32 : okM 32 = true := by decide +kernel
theorem om_33 : okM 33 = true := by decide +kernel
theorem om_34 : okM 34 = true := by decide +kernel
theorem om_35 : okM 35 = true := by decide +kernel
theorem om_36 : okM 36 = true := by decide +kernel
theorem om_37 : okM 37 = true := by decide +kernel
theorem om_38 : okM 38 = true := by decide +kernel
theorem om_39 : okM 39 = true := by decide +kernel
theorem om_40 : okM 40 = true := by decide +kernel
theorem om_41 : okM 41 = true := by decide +kernel
theorem om_42 : okM 42 = true := by decide +kernel
theorem om_43 : okM 43 = true := by decide +kernel
theorem om_44 : okM 44 = true := by decide +kernel
theorem om_45 : okM 45 = true := by decide +kernel
theorem om_46 : okM 46 = true := by decide +kernel
theorem om_47 : okM 47 = true := by decide +kernel
theorem om_48 : okM 48 = true := by decide +kernel
theorem om_49 : okM 49 = true := by decide +kernel
theorem om_50 : okM 50 = true := by decide +kernel
theorem om_51 : okM 51 = true := by decide +kernel
theorem om_52 : okM 52 = true := by decide +kernel
theorem om_53 : okM 53 = true := by decide +kernel
theorem om_54 : okM 54 = true := by decide +kernel
theorem om_55 : okM 55 = true := by decide +kernel
theorem om_56 : okM 56 = true := by decide +kernel
theorem om_57 : okM 57 = true := by decide +kernel
theorem om_58 : okM 58 = true := by decide +kernel
theorem om_59 : okM 59 = true := by decide +kernel
theorem om_60 : okM 60 = true := by decide +kernel
theorem om_61 : okM 61 = true := by decide +kernel
theorem om_62 : okM 62 = true := by decide +kernel
theorem om_63 : okM 63 = true := by decide +kernel
theorem om_64 : okM 64 = true := by decide +kernel
theorem om_65 : okM 65 = true := by decide +kernel
theorem om_66 : okM 66 = true := by decide +kernel
theorem om_67 : okM 67 = true := by decide +kernel
theorem om_68 : okM 68 = true := by decide +kernel
theorem om_69 : okM 69 = true := by decide +kernel
theorem om_70 : okM 70 = true := by decide +kernel
theorem om_71 : okM 71 = true := by decide +kernel
theorem om_72 : okM 72 = true := by decide +kernel
theorem om_73 : okM 73 = true := by decide +kernel
theorem om_74 : okM 74 = true := by decide +kernel
theorem om_75 : okM 75 = true := by decide +kernel
theorem om_76 : okM 76 = true := by decide +kernel
theorem om_77 : okM 77 = true := by decide +kernel
theorem om_78 : okM 78 = true := by decide +kernel
theorem om_79 : okM 79 = true := by decide +kernel
theorem om_80 : okM 80 = true := by decide +kernel
theorem om_81 : okM 81 = true := by decide +kernel
theorem om_82 : okM 82 = true := by decide +kernel
theorem om_83 : okM 83 = true := by decide +kernel
theorem om_84 : okM 84 = true := by decide +kernel
theorem om_85 : okM 85 = true := by decide +kernel
theorem om_86 : okM 86 = true := by decide +kernel
theorem om_87 : okM 87 = true := by decide +kernel
theorem om_88 : okM 88 = true := by decide +kernel
theorem om_89 : okM 89 = true := by decide +kernel
theorem om_90 : okM 90 = true := by decide +kernel
theorem om_91 : okM 91 = true := by decide +kernel
theorem om_92 : okM 92 = true := by decide +kernel
theorem om_93 : okM 93 = true := by decide +kernel
theorem om_94 : okM 94 = true := by decide +kernel
theorem om_95 : okM 95 = true := by decide +kernel
theorem om_96 : okM 96 = true := by decide +kernel
theorem om_97 : okM 97 = true := by decide +kernel
theorem om_98 : okM 98 = true := by decide +kernel
theorem om_99 : okM 99 = true := by decide +kernel
theorem om_100 : okM 100 = true := by decide +kernel
theorem om_101 : okM 101 = true := by decide +kernel
theorem om_102 : okM 102 = true := by decide +kernel
theorem om_103 : okM 103 = true := by decide +kernel
theorem om_104 : okM 104 = true := by decide +kernel
theorem om_105 : okM 105 = true := by decide +kernel
theorem om_106 : okM 106 = true := by decide +kernel
theorem om_107 : okM 107 = true := by decide +kernel
theorem om_108 : okM 108 = true := by decide +kernel
theorem om_109 : okM 109 = true := by decide +kernel
theorem om_110 : okM 110 = true := by decide +kernel
theorem om_111 : okM 111 = true := by decide +kernel
theorem om_112 : okM 112 = true := by decide +kernel
theorem om_113 : okM 113 = true := by decide +kernel
theorem om_114 : okM 114 = true := by decide +kernel
theorem om_115 : okM 115 = true := by decide +kernel
theorem om_116 : okM 116 = true := by decide +kernel
theorem om_117 : okM 117 = true := by decide +kernel
theorem om_118 : okM 118 = true := by decide +kernel
theorem om_119 : okM 119 = true := by decide +kernel
theorem om_120 : okM 120 = true := by decide +kernel
theorem om_121 : okM 121 = true := by decide +kernel
theorem om_122 : okM 122 = true := by decide +kernel
theorem om_123 : okM 123 = true := by decide +kernel
theorem om_124 : okM 124 = true := by decide +kernel
theorem om_125 : okM 125 = true := by decide +kernel
theorem om_126 : okM 126 = true := by decide +kernel
theorem om_127 : okM 127 = true := by decide +kernel
theorem om_128 : okM 128 = true := by decide +kernel
theorem om_129 : okM 129 = true := by decide +kernel
theorem om_130 : okM 130 = true := by decide +kernel
theorem om_131 : okM 131 = true := by decide +kernel
theorem om_132 : okM 132 = true := by decide +kernel
theorem om_133 : okM 133 = true := by decide +kernel
theorem om_134 : okM 134 = true := by decide +kernel
theorem om_135 : okM 135 = true := by decide +kernel
theorem om_136 : okM 136 = true := by decide +kernel
theorem om_137 : okM 137 = true := by decide +kernel
theorem om_138 : okM 138 = true := by decide +kernel
theorem om_139 : okM 139 = true := by decide +kernel
theorem om_140 : okM 140 = true := by decide +kernel
theorem om_141 : okM 141 = true := by decide +kernel
theorem om_142 : okM 142 = true := by decide +kernel
theorem om_143 : okM 143 = true := by decide +kernel
theorem om_144 : okM 144 = true := by decide +kernel
theorem om_145 : okM 145 = true := by decide +kernel
theorem om_146 : okM 146 = true := by decide +kernel
theorem om_147 : okM 147 = true := by decide +kernel
theorem om_148 : okM 148 = true := by decide +kernel
theorem om_149 : okM 149 = true := by decide +kernel
theorem om_150 : okM 150 = true := by decide +kernel
theorem om_151 : okM 151 = true := by decide +kernel
theorem om_152 : okM 152 = true := by decide +kernel
theorem om_153 : okM 153 = true := by decide +kernel
theorem om_154 : okM 154 = true := by decide +kernel
theorem om_155 : okM 155 = true := by decide +kernel
theorem om_156 : okM 156 = true := by decide +kernel
theorem om_157 : okM 157 = true := by decide +kernel
theorem om_158 : okM 158 = true := by decide +kernel
theorem om_159 : okM 159 = true := by decide +kernel
theorem om_160 : okM 160 = true := by decide +kernel
theorem om_161 : okM 161 = true := by decide +kernel
theorem om_162 : okM 162 = true := by decide +kernel
theorem om_163 : okM 163 = true := by decide +kernel
theorem om_a0 : ∀ k, k < 0 → okM k = true := lt_0
theorem om_a1 : ∀ k, k < 1 → okM k = true := lt_s om_a0 om_0
theorem om_a2 : ∀ k, k < 2 → okM k = true := lt_s om_a1 om_1
theorem om_a3 : ∀ k, k < 3 → okM k = true := lt_s om_a2 om_2
theorem om_a4 : ∀ k, k < 4 → okM k = true := lt_s om_a3 om_3
theorem om_a5 : ∀ k, k < 5 → okM k = true := lt_s om_a4 om_4
theorem om_a6 : ∀ k, k < 6 → okM k = true := lt_s om_a5 om_5
theorem om_a7 : ∀ k, k < 7 → okM k = true := lt_s om_a6 om_6
theorem om_a8 : ∀ k, k < 8 → okM k = true := lt_s om_a7 om_7
theorem om_a9 : ∀ k, k < 9 → okM k = true := lt_s om_a8 om_8
theorem om_a10 : ∀ k, k < 10 → okM k = true := lt_s om_a9 om_9
theorem om_a11 : ∀ k, k < 11 → okM k = true := lt_s om_a10 om_10
theorem om_a12 : ∀ k, k < 12 → okM k = true := lt_s om_a11 om_11
theorem om_a13 : ∀ k, k < 13 → okM k = true := lt_s om_a12 om_12
theorem om_a14 : ∀ k, k < 14 → okM k = true := lt_s om_a13 om_13
theorem om_a15 : ∀ k, k < 15 → okM k = true := lt_s om_a14 om_14
theorem om_a16 : ∀ k, k < 16 → okM k = true := lt_s om_a15 om_15
theorem om_a17 : ∀ k, k < 17 → okM k = true := lt_s om_a16 om_16
theorem om_a18 : ∀ k, k < 18 → okM k = true := lt_s om_a17 om_17
theorem om_a19 : ∀ k, k < 19 → okM k = true := lt_s om_a18 om_18
theorem om_a20 : ∀ k, k < 20 → okM k = true := lt_s om_a19 om_19
theorem om_a21 : ∀ k, k < 21 → okM k = true := lt_s om_a20 om_20
theorem om_a22 : ∀ k, k < 22 → okM k = true := lt_s om_a21 om_21
theorem om_a23 : ∀ k, k < 23 → okM k = true := lt_s om_a22 om_22
theorem om_a24 : ∀ k, k < 24 → okM k = true := lt_s om_a23 om_23
theorem om_a25 : ∀ k, k < 25 → okM k = true := lt_s om_a24 om_24
theorem om_a26 : ∀ k, k < 26 → okM k = true := lt_s om_a25 om_25
theorem om_a27 : ∀ k, k < 27 → okM k = true := lt_s om_a26 om_26
theorem om_a28 : ∀ k, k < 28 → okM k = true := lt_s om_a27 om_27
theorem om_a29 : ∀ k, k < 29 → okM k = true := lt_s om_a28 om_28
theorem om_a30 : ∀ k, k < 30 → okM k = true := lt_s om_a29 om_29
theorem om_a31 : ∀ k, k < 31 → okM k = true := lt_s om_a30 om_30
theorem om_a32 : ∀ k, k < 32 → okM k = true := lt_s om_a31 om_31
theorem om_a33 : ∀ k, k < 33 → okM k = true := lt_s om_a32 om_32
theorem om_a34 : ∀ k, k < 34 → okM k = true := lt_s om_a33 om_33
theorem om_a35 : ∀ k, k < 35 → okM k = true := lt_s om_a34 om_34
theorem om_a36 : ∀ k, k < 36 → okM k = true := lt_s om_a35 om_35
theorem om_a37 : ∀ k, k < 37 → okM k = true := lt_s om_a36 om_36
theorem om_a38 : ∀ k, k < 38 → okM k = true := lt_s om_a37 om_37
theorem om_a39 : ∀ k, k < 39 → okM k = true := lt_s om_a38 om_38
theorem om_a40 : ∀ k, k < 40 → okM k = true := lt_s om_a39 om_39
theorem om_a41 : ∀ k, k < 41 → okM k = true := lt_s om_a40 om_40
theorem om_a42 : ∀ k, k < 42 → okM k = true := lt_s om_a41 om_41
theorem om_a43 : ∀ k, k < 43 → okM k = true := lt_s om_a42 om_42
theorem om_a44 : ∀ k, k < 44 → okM k = true := lt_s om_a43 om_43
theorem om_a45 : ∀ k, k < 45 → okM k = true := lt_s om_a44 om_44
theorem om_a46 : ∀ k, k < 46 → okM k = true := lt_s om_a45 om_45
theorem om_a47 : ∀ k, k < 47 → okM k = true := lt_s om_a46 om_46
theorem om_a48 : ∀ k, k < 48 → okM k = true := lt_s om_a47 om_47
theorem om_a49 : ∀ k, k < 49 → okM k = true := lt_s om_a48 om_48
theorem om_a50 : ∀ k, k < 50 → okM k = true := lt_s om_a49 om_49
theorem om_a51 : ∀ k, k < 51 → okM k = true := lt_s om_a50 om_50
theorem om_a52 : ∀ k, k < 52 → okM k = true := lt_s om_a51 om_51
theorem om_a53 : ∀ k, k < 53 → okM k = true := lt_s om_a52 om_52
theorem om_a54 : ∀ k, k < 54 → okM k = true := lt_s om_a53 om_53
theorem om_a55 : ∀ k, k < 55 → okM k = true := lt_s om_a54 om_54
theorem om_a56 : ∀ k, k < 56 → okM k = true := lt_s om_a55 om_55
theorem om_a57 : ∀ k, k < 57 → okM k = true := lt_s om_a56 om_56
theorem om_a58 : ∀ k, k < 58 → okM k = true := lt_s om_a57 om_57
theorem om_a59 : ∀ k, k < 59 → okM k = true := lt_s om_a58 om_58
theorem om_a60 : ∀ k, k < 60 → okM k = true := lt_s om_a59 om_59
theorem om_a61 : ∀ k, k < 61 → okM k = true := lt_s om_a60 om_60
theorem om_a62 : ∀ k, k < 62 → okM k = true := lt_s om_a61 om_61
theorem om_a63 : ∀ k, k < 63 → okM k = true := lt_s om_a62 om_62
theorem om_a64 : ∀ k, k < 64 → okM k = true := lt_s om_a63 om_63
theorem om_a65 : ∀ k, k < 65 → okM k = true := lt_s om_a64 om_64
theorem om_a66 : ∀ k, k < 66 → okM k = true := lt_s om_a65 om_65
theorem om_a67 : ∀ k, k < 67 → okM k = true := lt_s om_a66 om_66
theorem om_a68 : ∀ k, k < 68 → okM k = true := lt_s om_a67 om_67
theorem om_a69 : ∀ k, k < 69 → okM k = true := lt_s om_a68 om_68
theorem om_a70 : ∀ k, k < 70 → okM k = true := lt_s om_a69 om_69
theorem om_a71 : ∀ k, k < 71 → okM k = true := lt_s om_a70 om_70
theorem om_a72 : ∀ k, k < 72 → okM k = true := lt_s om_a71 om_71
theorem om_a73 : ∀ k, k < 73 → okM k = true := lt_s om_a72 om_72
theorem om_a74 : ∀ k, k < 74 → okM k = true := lt_s om_a73 om_73
theorem om_a75 : ∀ k, k < 75 → okM k = true := lt_s om_a74 om_74
theorem om_a76 : ∀ k, k < 76 → okM k = true := lt_s om_a75 om_75
theorem om_a77 : ∀ k, k < 77 → okM k = true := lt_s om_a76 om_76
theorem om_a78 : ∀ k, k < 78 → okM k = true := lt_s om_a77 om_77
theorem om_a79 : ∀ k, k < 79 → okM k = true := lt_s om_a78 om_78
theorem om_a80 : ∀ k, k < 80 → okM k = true := lt_s om_a79 om_79
theorem om_a81 : ∀ k, k < 81 → okM k = true := lt_s om_a80 om_80
theorem om_a82 : ∀ k, k < 82 → okM k = true := lt_s om_a81 om_81
theorem om_a83 : ∀ k, k < 83 → okM k = true := lt_s om_a82 om_82
theorem om_a84 : ∀ k, k < 84 → okM k = true := lt_s om_a83 om_83
theorem om_a85 : ∀ k, k < 85 → okM k = true := lt_s om_a84 om_84
theorem om_a86 : ∀ k, k < 86 → okM k = true := lt_s om_a85 om_85
theorem om_a87 : ∀ k, k < 87 → okM k = true := lt_s om_a86 om_86
theorem om_a88 : ∀ k, k < 88 → okM k = true := lt_s om_a87 om_87
theorem om_a89 : ∀ k, k < 89 → okM k = true := lt_s om_a88 om_88
theorem om_a90 : ∀ k, k < 90 → okM k = true := lt_s om_a89 om_89
theorem om_a91 : ∀ k, k < 91 → okM k = true := lt_s om_a90 om_90
theorem om_a92 : ∀ k, k < 92 → okM k = true := lt_s om_a91 om_91
theorem om_a93 : ∀ k, k < 93 → okM k = true := lt_s om_a92 om_92
theorem om_a94 : ∀ k, k < 94 → okM k = true := lt_s om_a93 om_93
theorem om_a95 : ∀ k, k < 95 → okM k = true := lt_s om_a94 om_94
theorem om_a96 : ∀ k, k < 96 → okM k = true := lt_s om_a95 om_95
theorem om_a97 : ∀ k, k < 97 → okM k = true := lt_s om_a96 om_96
theorem om_a98 : ∀ k, k < 98 → okM k = true := lt_s om_a97 om_97
theorem om_a99 : ∀ k, k < 99 → okM k = true := lt_s om_a98 om_98
theorem om_a100 : ∀ k, k < 100 → okM k = true := lt_s om_a99 om_99
theorem om_a101 : ∀ k, k < 101 → okM k = true := lt_s om_a100 om_100
theorem om_a102 : ∀ k, k < 102 → okM k = true := lt_s om_a101 om_101
theorem om_a103 : ∀ k, k < 103 → okM k = true := lt_s om_a102 om_102
theorem om_a104 : ∀ k, k < 104 → okM k = true := lt_s om_a103 om_103
theorem om_a105 : ∀ k, k < 105 → okM k = true := lt_s om_a104 om_104
theorem om_a106 : ∀ k, k < 106 → okM k = true := lt_s om_a105 om_105
theorem om_a107 : ∀ k, k < 107 → okM k = true := lt_s om_a106 om_106
theorem om_a108 : ∀ k, k < 108 → okM k = true := lt_s om_a107 om_107
theorem om_a109 : ∀ k, k < 109 → okM k = true := lt_s om_a108 om_108
theorem om_a110 : ∀ k, k < 110 → okM k = true := lt_s om_a109 om_109
theorem om_a111 : ∀ k, k < 111 → okM k = true := lt_s om_a110 om_110
theorem om_a112 : ∀ k, k < 112 → okM k = true := lt_s om_a111 om_111
theorem om_a113 : ∀ k, k < 113 → okM k = true := lt_s om_a112 om_112
theorem om_a114 : ∀ k, k < 114 → okM k = true := lt_s om_a113 om_113
theorem om_a115 : ∀ k, k < 115 → okM k = true := lt_s om_a114 om_114
theorem om_a116 : ∀ k, k < 116 → okM k = true := lt_s om_a115 om_115
theorem om_a117 : ∀ k, k < 117 → okM k = true := lt_s om_a116 om_116
theorem om_a118 : ∀ k, k < 118 → okM k = true := lt_s om_a117 om_117
theorem om_a119 : ∀ k, k < 119 → okM k = true := lt_s om_a118 om_118
theorem om_a120 : ∀ k, k < 120 → okM k = true := lt_s om_a119 om_119
theorem om_a121 : ∀ k, k < 121 → okM k = true := lt_s om_a120 om_120
theorem om_a122 : ∀ k, k < 122 → okM k = true := lt_s om_a121 om_121
theorem om_a123 : ∀ k, k < 123 → okM k = true := lt_s om_a122 om_122
theorem om_a124 : ∀ k, k < 124 → okM k = true := lt_s om_a123 om_123
theorem om_a125 : ∀ k, k < 125 → okM k = true := lt_s om_a124 om_124
theorem om_a126 : ∀ k, k < 126 → okM k = true := lt_s om_a125 om_125
theorem om_a127 : ∀ k, k < 127 → okM k = true := lt_s om_a126 om_126
theorem om_a128 : ∀ k, k < 128 → okM k = true := lt_s om_a127 om_127
theorem om_a129 : ∀ k, k < 129 → okM k = true := lt_s om_a128 om_128
theorem om_a130 : ∀ k, k < 130 → okM k = true := lt_s om_a129 om_129
theorem om_a131 : ∀ k, k < 131 → okM k = true := lt_s om_a130 om_130
theorem om_a132 : ∀ k, k < 132 → okM k = true := lt_s om_a131 om_131
theorem om_a133 : ∀ k, k < 133 → okM k = true := lt_s om_a132 om_132
theorem om_a134 : ∀ k, k < 134 → okM k = true := lt_s om_a133 om_133
theorem om_a135 : ∀ k, k < 135 → okM k = true := lt_s om_a134 om_134
theorem om_a136 : ∀ k, k < 136 → okM k = true := lt_s om_a135 om_135
theorem om_a137 : ∀ k, k < 137 → okM k = true := lt_s om_a136 om_136
theorem om_a138 : ∀ k, k < 138 → okM k = true := lt_s om_a137 om_137
theorem om_a139 : ∀ k, k < 139 → okM k = true := lt_s om_a138 om_138
theorem om_a140 : ∀ k, k < 140 → okM k = true := lt_s om_a139 om_139
theorem om_a141 : ∀ k, k < 141 → okM k = true := lt_s om_a140 om_140
theorem om_a142 : ∀ k, k < 142 → okM k = true := lt_s om_a141 om_141
theorem om_a143 : ∀ k, k < 143 → okM k = true := lt_s om_a142 om_142
theorem om_a144 : ∀ k, k < 144 → okM k = true := lt_s om_a143 om_143
theorem om_a145 : ∀ k, k < 145 → okM k = true := lt_s om_a144 om_144
theorem om_a146 : ∀ k, k < 146 → okM k = true := lt_s om_a145 om_145
theorem om_a147 : ∀ k, k < 147 → okM k = true := lt_s om_a146 om_146
theorem om_a148 : ∀ k, k < 148 → okM k = true := lt_s om_a147 om_147
theorem om_a149 : ∀ k, k < 149 → okM k = true := lt_s om_a148 om_148
theorem om_a150 : ∀ k, k < 150 → okM k = true := lt_s om_a149 om_149
theorem om_a151 : ∀ k, k < 151 → okM k = true := lt_s om_a150 om_150
theorem om_a152 : ∀ k, k < 152 → okM k = true := lt_s om_a151 om_151
theorem om_a153 : ∀ k, k < 153 → okM k = true := lt_s om_a152 om_152
theorem om_a154 : ∀ k, k < 154 → okM k = true := lt_s om_a153 om_153
theorem om_a155 : ∀ k, k < 155 → okM k = true := lt_s om_a154 om_154
theorem om_a156 : ∀ k, k < 156 → okM k = true := lt_s om_a155 om_155
theorem om_a157 : ∀ k, k < 157 → okM k = true := lt_s om_a156 om_156
theorem om_a158 : ∀ k, k < 158 → okM k = true := lt_s om_a157 om_157
theorem om_a159 : ∀ k, k < 159 → okM k = true := lt_s om_a158 om_158
theorem om_a160 : ∀ k, k < 160 → okM k = true := lt_s om_a159 om_159
theorem om_a161 : ∀ k, k < 161 → okM k = true := lt_s om_a160 om_160
theorem om_a162 : ∀ k, k < 162 → okM k = true := lt_s om_a161 om_161
theorem om_a163 : ∀ k, k < 163 → okM k = true := lt_s om_a162 om_162
theorem om_a164 : ∀ k, k < 164 → okM k = true := lt_s om_a163 om_163
end
section
/-! whole numbers in range and the machine's ints -/
abbrev oI (x : Int) : Int32 := Int32.ofInt x
theorem oI_to {x : Int} (h : iR x) : (oI x).toInt = x := Int32.toInt_ofInt_of_le (by omega) (by omega)
theorem oL_to {x : Int} (h : iR x) : (Int64.ofInt x).toInt = x := Int64.toInt_ofInt_of_le (by omega) (by omega)
theorem oI_lt {x y : Int} (hx : iR x) (hy : iR y) : oI x < oI y ↔ x < y := by rw [Int32.lt_iff_toInt_lt, oI_to hx, oI_to hy]
theorem oI_le {x y : Int} (hx : iR x) (hy : iR y) : oI x ≤ oI y ↔ x ≤ y := by rw [Int32.le_iff_toInt_le, oI_to hx, oI_to hy]
theorem oI_eq {x y : Int} (hx : iR x) (hy : iR y) : oI x = oI y ↔ x = y := by rw [← Int32.toInt_inj, oI_to hx, oI_to hy]
theorem oL_lt {x y : Int} (hx : iR x) (hy : iR y) : Int64.ofInt x < Int64.ofInt y ↔ x < y := by rw [Int64.lt_iff_toInt_lt, oL_to hx, oL_to hy]
theorem oL_eq {x y : Int} (hx : iR x) (hy : iR y) : Int64.ofInt x = Int64.ofInt y ↔ x = y := by rw [← Int64.toInt_inj, oL_to hx, oL_to hy]
theorem oI_0 : oI 0 = 0 := by decide +kernel
theorem oI_add (x y : Int) : oI (x + y) = oI x + oI y := Int32.ofInt_add ..
theorem oI_mul (x y : Int) : oI (x * y) = oI x * oI y := Int32.ofInt_mul ..
theorem oI_sub (x y : Int) : oI (x - y) = oI x - oI y := by
  apply Int32.toInt_inj.mp
  rw [Int32.toInt_sub, Int32.toInt_ofInt, Int32.toInt_ofInt, Int32.toInt_ofInt, Int.sub_bmod_bmod, Int.bmod_sub_bmod]
theorem oI_nat (n : Nat) : oI (n : Int) = nI n := by
  first | rfl | exact Int32.ofInt_natCast | exact Int32.ofInt_eq_ofNat | simp [oI, nI]
theorem oI_pos {x : Int} (h : 0 ≤ x) : oI x = nI x.toNat := by
  rw [← oI_nat, Int.toNat_of_nonneg h]
theorem oI_cl {x : Int} (hx : iR x) : (oI x).toNatClampNeg = x.toNat := by
  show (oI x).toInt.toNat = _
  rw [oI_to hx]
theorem oI_in {x : Int} {n : Nat} (hx : iR x) (h : 0 ≤ x ∧ x < n) : vp_in (oI x) n := by
  rw [vp_in_iff, oI_to hx]; exact h
theorem oI_div {x y : Int} (hx : iR x) (hy : iR y) (h : 0 ≤ x ∧ 0 < y) : oI (x / y) = oI x / oI y := by
  obtain ⟨a, rfl⟩ := Int.eq_ofNat_of_zero_le h.1
  obtain ⟨b, rfl⟩ := Int.eq_ofNat_of_zero_le (Int.le_of_lt h.2)
  rw [← Int.natCast_ediv, oI_nat, oI_nat, oI_nat, pk_div (by omega) (by omega) (by omega)]
theorem oI_rem {x y : Int} (hx : iR x) (hy : iR y) (h : 0 ≤ x ∧ 0 < y) : oI (x % y) = oI x - oI x / oI y * oI y := by
  obtain ⟨a, rfl⟩ := Int.eq_ofNat_of_zero_le h.1
  obtain ⟨b, rfl⟩ := Int.eq_ofNat_of_zero_le (Int.le_of_lt h.2)
  rw [← Int.natCast_emod, oI_nat, oI_nat, oI_nat, pk_rem (by omega) (by omega) (by omega)]
theorem oI_bv {n : Nat} (h : n < 2 ^ 32) : (nI n).toBitVec.toNat = n := pk_tn h
theorem oI_and {x y : Int} (hx : iR x) (hy : iR y) (h : 0 ≤ x ∧ 0 ≤ y) : oI ((x.toNat &&& y.toNat : Nat) : Int) = oI x &&& oI y := by
  have h1 : x.toNat &&& y.toNat < 2 ^ 31 := Nat.lt_of_le_of_lt Nat.and_le_left (by omega)
  rw [oI_nat, oI_pos h.1, oI_pos h.2]
  apply Int32.toBitVec_inj.mp
  apply BitVec.eq_of_toNat_eq
  rw [Int32.toBitVec_and, BitVec.toNat_and, oI_bv (by omega), oI_bv (by omega), oI_bv (by omega)]
theorem or_lt31 {a b : Nat} (ha : a < 2 ^ 31) (hb : b < 2 ^ 31) : a ||| b < 2 ^ 31 := Nat.or_lt_two_pow ha hb
theorem xor_lt31 {a b : Nat} (ha : a < 2 ^ 31) (hb : b < 2 ^ 31) : a ^^^ b < 2 ^ 31 := Nat.xor_lt_two_pow ha hb
theorem oI_or {x y : Int} (hx : iR x) (hy : iR y) (h : 0 ≤ x ∧ 0 ≤ y) : oI ((x.toNat ||| y.toNat : Nat) : Int) = oI x ||| oI y := by
  have h1 : x.toNat ||| y.toNat < 2 ^ 31 := or_lt31 (by omega) (by omega)
  rw [oI_nat, oI_pos h.1, oI_pos h.2]
  apply Int32.toBitVec_inj.mp
  apply BitVec.eq_of_toNat_eq
  rw [Int32.toBitVec_or, BitVec.toNat_or, oI_bv (by omega), oI_bv (by omega), oI_bv (by omega)]
theorem oI_xor {x y : Int} (hx : iR x) (hy : iR y) (h : 0 ≤ x ∧ 0 ≤ y) : oI ((x.toNat ^^^ y.toNat : Nat) : Int) = oI x ^^^ oI y := by
  have h1 : x.toNat ^^^ y.toNat < 2 ^ 31 := xor_lt31 (by omega) (by omega)
  rw [oI_nat, oI_pos h.1, oI_pos h.2]
  apply Int32.toBitVec_inj.mp
  apply BitVec.eq_of_toNat_eq
  rw [Int32.toBitVec_xor, BitVec.toNat_xor, oI_bv (by omega), oI_bv (by omega), oI_bv (by omega)]
theorem oI_sh {y : Nat} (h : y < 31) : ((nI y &&& 31).toBitVec.smod 32).toNat = y := by
  have h2 : ∀ y, y < 31 → ((nI y &&& 31).toBitVec.smod 32).toNat = y := by decide +kernel
  exact h2 y h
theorem oI_shl {x y : Int} (hx : iR x) (h : 0 ≤ x ∧ 0 ≤ y ∧ y < 31 ∧ x * 2 ^ y.toNat ≤ 2147483647) : oI (x * 2 ^ y.toNat) = oI x <<< (oI y &&& 31) := by
  obtain ⟨a, rfl⟩ := Int.eq_ofNat_of_zero_le h.1
  obtain ⟨b, rfl⟩ := Int.eq_ofNat_of_zero_le h.2.1
  have h3 := h.2.2.2
  have e : (a : Int) * 2 ^ (b : Int).toNat = ((a * 2 ^ b : Nat) : Int) := by simp
  rw [e] at h3
  rw [e, oI_nat, oI_nat, oI_nat, pk_shlN (nI b &&& 31) b (oI_sh (by omega)) (by omega)]
theorem oI_shr {x y : Int} (hx : iR x) (h : 0 ≤ x ∧ 0 ≤ y ∧ y < 31) : oI (x / 2 ^ y.toNat) = oI x >>> (oI y &&& 31) := by
  obtain ⟨a, rfl⟩ := Int.eq_ofNat_of_zero_le h.1
  obtain ⟨b, rfl⟩ := Int.eq_ofNat_of_zero_le h.2.1
  have e : (a : Int) / 2 ^ (b : Int).toNat = ((a / 2 ^ b : Nat) : Int) := by simp
  rw [e, oI_nat, oI_nat, oI_nat, pk_shrN (by omega) (nI b &&& 31) b (oI_sh (by omega))]
theorem oI_long {x : Int} (h : iR x) : (oI x).toInt64 = Int64.ofInt x := by
  apply Int64.toInt_inj.mp
  rw [Int32.toInt_toInt64, oI_to h, oL_to h]
theorem oI_bit {x : Int} (h : x = 0 ∨ x = 1) : oI x &&& 1 = oI x := by
  rcases h with rfl | rfl <;> decide +kernel
theorem oI_cmp {x y : Int} (hx : iR x) (hy : iR y) : lg_cmp (Int64.ofInt x) (Int64.ofInt y) = oI (if y < x then 1 else if x = y then 0 else -1) := by
  unfold lg_cmp
  by_cases h : y < x
  · rw [if_pos h, if_pos ((oL_lt hy hx).mpr h)]; decide +kernel
  · rw [if_neg h, if_neg (fun z => h ((oL_lt hy hx).mp z))]
    by_cases h2 : x = y
    · rw [if_pos h2, if_pos ((oL_eq hx hy).mpr h2)]; decide +kernel
    · rw [if_neg h2, if_neg (fun z => h2 ((oL_eq hx hy).mp z))]; decide +kernel
theorem oI_max {x y : Int} (hx : iR x) (hy : iR y) : (if oI x < oI y then oI y else oI x) = oI (if x < y then y else x) := by
  by_cases h : x < y
  · rw [if_pos h, if_pos ((oI_lt hx hy).mpr h)]
  · rw [if_neg h, if_neg (fun z => h ((oI_lt hx hy).mp z))]
end
section
/-! THE PURE MACHINE's STATE, as the machine has it -/
def trV (ad : Nat → Nat) (v : PV) : Value := match v with
  | .inl x => .int (oI x)
  | .inr (.inl x) => .long (Int64.ofInt x)
  | .inr (.inr p) => .ref (ad p)
def okV (n : Nat) (v : PV) : Prop := match v with
  | .inl x => iR x
  | .inr (.inl x) => iR x
  | .inr (.inr p) => p < n
def bty (b : Bool) : FieldType := if b then .boolean else .int
def rfT (t : FieldType) : Bool := match t with
  | .object _ => true
  | .array _ => true
  | _ => false
def fV (ad : Nat → Nat) (μ : Mu) (p i : Nat) (o : Option (Option Nat)) : Value := match o with
  | none => .int (oI (μ p i))
  | some none => .null
  | some (some q) => .ref (ad q)
def mkE (ad : Nat → Nat) (cA : Nat → ClassId) (μ : Mu) (p : Nat) (sh : Shp) : va_E := match sh with
  | .inl q => .inl (cA p, q.2, .inl (fun j => oI (μ p (j : Int))))
  | .inr q => .inr (q.1, q.2.mapIdx (fun i o => fV ad μ p i o))
def mkW (S : List Shp) (μ : Mu) (ad : Nat → Nat) (cA : Nat → ClassId) : va_W := S.mapIdx (fun p sh => (ad p, mkE ad cA μ p sh))
theorem mkW_len {S : List Shp} {μ : Mu} {ad : Nat → Nat} {cA : Nat → ClassId} : (mkW S μ ad cA).length = S.length := by simp [mkW]
theorem mkW_at {S : List Shp} {μ : Mu} {ad : Nat → Nat} {cA : Nat → ClassId} {p : Nat} {sh : Shp} (h : S[p]? = some sh) : (mkW S μ ad cA)[p]? = some (ad p, mkE ad cA μ p sh) := by
  simp [mkW, h]
theorem mkW_ext {ws : va_W} {S : List Shp} {μ : Mu} {ad : Nat → Nat} {cA : Nat → ClassId} (hl : ws.length = S.length) (h : ∀ (p : Nat) (sh : Shp), S[p]? = some sh → ws[p]? = some (ad p, mkE ad cA μ p sh)) : ws = mkW S μ ad cA := by
  apply List.ext_getElem?
  intro p
  cases hp : S[p]? with
  | none =>
    have h1 : S.length ≤ p := List.getElem?_eq_none_iff.mp hp
    rw [List.getElem?_eq_none_iff.mpr (by omega), List.getElem?_eq_none_iff.mpr (by rw [mkW_len]; omega)]
  | some sh => rw [h p sh hp, mkW_at hp]
def RgM (μ : Mu) : Prop := ∀ p i, iR (μ p i)
def shOK (n : Nat) (sh : Shp) : Prop := match sh with
  | .inl _ => True
  | .inr q => q.1 < 13 ∧ q.2.length = clN q.1 ∧ ∀ (i : Nat) (o : Option (Option Nat)), q.2[i]? = some o → (match o with
    | none => tyC q.1 i = .int
    | some none => rfT (tyC q.1 i) = true
    | some (some z) => rfT (tyC q.1 i) = true ∧ z < n)
def ShOK (S : List Shp) : Prop := ∀ (p : Nat) (sh : Shp), S[p]? = some sh → shOK S.length sh
def TyOK (S : List Shp) (cA : Nat → ClassId) (tys : List (ClassId × FieldType)) : Prop := ∀ (p : Nat) (b : Bool) (n : Nat), S[p]? = some (.inl (b, n)) → ∃ i : Nat, tys[i]? = some (cA p, bty b)
def Wo (D : va_G) (S : List Shp) (μ : Mu) (ad : Nat → Nat) (cA : Nat → ClassId) (tys : List (ClassId × FieldType)) (A : Nat → Prop) (s : State) (H : Heap) : Prop :=
  va_K D cls tys s ∧ va_P D cls (mkW S μ ad cA) H ∧ va_D A (mkW S μ ad cA) ∧ TyOK S cA tys ∧ RgM μ ∧ ShOK S
def TW : List Cond := lw_tbl.filter goodWord
theorem tw_mem {w : Cond} (h : w ∈ lw_tbl) (g : goodWord w = true) : w ∈ TW := List.mem_filter.mpr ⟨h, g⟩
def wsK (k : Nat) : List Cond := .code (mY k) (mB k) (mL k) (rT (mR k)) :: TW
def rmK (k : Nat) : Room := { frames := mF k, cells := mC k, slots := mS k, locals := mO k }
theorem code_tw {k : Nat} (hk : k < 164) : Cond.code (mY k) (mB k) (mL k) (rT (mR k)) ∈ TW := tw_mem (kw_a164 k hk) rfl
theorem good_in {big : List Cond} (hb : ∀ w ∈ TW, w ∈ big) {j : Nat} (hj : j < 164) : GoodIn big (wsK j) := by
  intro w hw
  rcases List.mem_cons.mp hw with rfl | h
  · exact ⟨hb _ (code_tw hj), good_of_word rfl⟩
  · exact ⟨hb _ h, good_of_word (List.mem_filter.mp h).2⟩
theorem tw_in (k : Nat) : ∀ w ∈ TW, w ∈ wsK k := fun _ h => List.mem_cons_of_mem _ h
/-- the links to nest mates' private members -/
def NWs (U : State) : Prop := ∀ q ∈ MK, (q.2.2.1 = 5 ∨ q.2.2.1 = 7) → va_Nw (.methodLinkNest (nmC q.1) q.2.1 (mY q.2.2.2.1) RX11) U
theorem NWs.warm {s U : State} (hW : s.WarmedH U.vm) (h : NWs s) : NWs U := fun q hq hk => va_Nw.warmM hW (h q hq hk)
theorem NWs.same {s U : State} (hW : s.vm = U.vm) (h : NWs s) : NWs U := fun q hq hk => va_Nw.same rfl hW (h q hq hk)
/-- what holds all through a method's frame -/
def Fx (p : Program) (s : State) (m : MethodId) (args : Array Value) (meth : Method) (c : Code) (k : Nat) : Prop :=
  k < 164 ∧ p.tables.exec = Jvm.exec ∧ c.code = mB k ∧ meth.sig.returnType = rT (mR k) ∧ c.maxLocals = mL k ∧ s.vm.findClass (nmC (mI k)) = some m.cls ∧ (∀ w ∈ wsK k, w.before args s = true) ∧ meth.locks = false ∧ (mZ k = 1 → meth.name = "<init>") ∧ NWs s
def asc (ad : Nat → Nat) : Nat → Lo → List (Nat × Value)
  | _, [] => []
  | i, none :: r => asc ad (i + 1) r
  | i, some v :: r => (i, trV ad v) :: asc ad (i + 1) r
theorem asc_mem {ad : Nat → Nat} : ∀ (ls : Lo) (i : Nat) (q : Nat × Value), q ∈ asc ad i ls ↔ ∃ j v, ls[j]? = some (some v) ∧ q = (i + j, trV ad v) := by
  intro ls
  induction ls with
  | nil => intro i q; simp [asc]
  | cons o r ih =>
    intro i q
    cases o with
    | none =>
      rw [asc, ih]
      constructor
      · rintro ⟨j, v, h1, h2⟩
        exact ⟨j + 1, v, by simpa using h1, by rw [h2]; congr 1; omega⟩
      · rintro ⟨j, v, h1, h2⟩
        cases j with
        | zero => simp at h1
        | succ j => exact ⟨j, v, by simpa using h1, by rw [h2]; congr 1; omega⟩
    | some w =>
      rw [asc, List.mem_cons, ih]
      constructor
      · rintro (h | ⟨j, v, h1, h2⟩)
        · exact ⟨0, w, by simp, by rw [h]; rfl⟩
        · exact ⟨j + 1, v, by simpa using h1, by rw [h2]; congr 1; omega⟩
      · rintro ⟨j, v, h1, h2⟩
        cases j with
        | zero =>
          simp at h1
          subst h1
          exact Or.inl (by rw [h2]; rfl)
        | succ j => exact Or.inr ⟨j, v, by simpa using h1, by rw [h2]; congr 1; omega⟩
/-- locals and stack -/
def Fs (ad : Nat → Nat) (k n : Nat) (ls : Lo) (st : List PV) (lsR : Array Slot) : Prop :=
  lv_has lsR (mL k) (asc ad 0 ls) ∧ ls.length = mL k ∧ (∀ v, some v ∈ ls → okV n v) ∧ (∀ v ∈ st, okV n v) ∧ (nL k = true → ∀ v, some v ∈ ls → isL v = false)
theorem Fs.at {ad : Nat → Nat} {k n : Nat} {ls : Lo} {st : List PV} {lsR : Array Slot} (h : Fs ad k n ls st lsR) {i : Nat} {v : PV} (hi : ls.getD i none = some v) : lsR[i]? = some (.val (trV ad v)) ∧ okV n v := by
  have h1 : ls[i]? = some (some v) := by
    rw [List.getD_eq_getElem?_getD] at hi
    cases hj : ls[i]? with
    | none => rw [hj] at hi; cases hi
    | some o => rw [hj] at hi; exact congrArg some hi
  refine ⟨h.1.2.2 (i, trV ad v) ((asc_mem ls 0 _).mpr ⟨i, v, h1, by rw [Nat.zero_add]⟩), h.2.2.1 v (List.mem_of_getElem? h1)⟩
theorem Fs.stk {ad : Nat → Nat} {k n : Nat} {ls : Lo} {st st' : List PV} {lsR : Array Slot} (h : Fs ad k n ls st lsR) (h' : ∀ v ∈ st', okV n v) : Fs ad k n ls st' lsR := ⟨h.1, h.2.1, h.2.2.1, h', h.2.2.2.2⟩
theorem trV_cat (ad : Nat → Nat) (v : PV) : (trV ad v).category = if isL v then 2 else 1 := by
  rcases v with x | x | x <;> rfl
theorem Fs.set {ad : Nat → Nat} {k n : Nat} {ls : Lo} {st st' : List PV} {lsR lsR' : Array Slot} (h : Fs ad k n ls st lsR) (hk : nL k = true) {i : Nat} {v : PV} (hv : okV n v) (hl : isL v = false) (hs : ∀ v ∈ st', okV n v)
    (h' : lv_has lsR' (mL k) ((i, trV ad v) :: (asc ad 0 ls).filter (fun q => !(q.1 == i) && !(q.1 + 1 == i && q.2.category == 2)))) : Fs ad k n (ls.set i (some v)) st' lsR' := by
  have key : ∀ (j : Nat) (w : PV), (ls.set i (some v))[j]? = some (some w) → (j = i ∧ w = v) ∨ (j ≠ i ∧ ls[j]? = some (some w)) := by
    intro j w hj
    by_cases hji : j = i
    · subst hji
      rw [List.getElem?_set] at hj
      split at hj
      · split at hj
        · cases hj; exact Or.inl ⟨rfl, rfl⟩
        · cases hj
      · rename_i hne
        exact absurd rfl hne
    · rw [List.getElem?_set_ne (Ne.symm hji)] at hj
      exact Or.inr ⟨hji, hj⟩
  have mem : ∀ w, some w ∈ ls.set i (some v) → w = v ∨ some w ∈ ls := by
    intro w hw
    obtain ⟨j, hj⟩ := List.getElem?_of_mem hw
    rcases key j w hj with h1 | h1
    · exact Or.inl h1.2
    · exact Or.inr (List.mem_of_getElem? h1.2)
  refine ⟨⟨h'.1, h'.2.1, fun q hq => ?_⟩, by rw [List.length_set]; exact h.2.1, fun w hw => ?_, hs, fun _ w hw => ?_⟩
  · obtain ⟨j, w, h1, rfl⟩ := (asc_mem _ _ _).mp hq
    rw [Nat.zero_add]
    rcases key j w h1 with ⟨rfl, rfl⟩ | ⟨h2, h3⟩
    · exact h'.2.2 _ List.mem_cons_self
    · refine h'.2.2 _ (List.mem_cons_of_mem _ (List.mem_filter.mpr ⟨(asc_mem _ _ _).mpr ⟨j, w, h3, by rw [Nat.zero_add]⟩, ?_⟩))
      have hc := trV_cat ad w
      rw [h.2.2.2.2 hk w (List.mem_of_getElem? h3)] at hc
      simp [h2, hc]
  · rcases mem w hw with rfl | h1
    · exact hv
    · exact h.2.2.1 w h1
  · rcases mem w hw with rfl | h1
    · exact hl
    · exact h.2.2.2.2 hk w h1
theorem okV_mono {n n' : Nat} (h : n ≤ n') {v : PV} (hv : okV n v) : okV n' v := by
  rcases v with x | x | x
  · exact hv
  · exact hv
  · exact Nat.lt_of_lt_of_le hv h
theorem trV_ag {n : Nat} {ad ad' : Nat → Nat} (h : ∀ p, p < n → ad' p = ad p) {v : PV} (hv : okV n v) : trV ad' v = trV ad v := by
  rcases v with x | x | x
  · rfl
  · rfl
  · exact congrArg Value.ref (h x hv)
theorem asc_ag {n : Nat} {ad ad' : Nat → Nat} (h : ∀ p, p < n → ad' p = ad p) : ∀ (ls : Lo) (i : Nat), (∀ v, some v ∈ ls → okV n v) → asc ad' i ls = asc ad i ls := by
  intro ls
  induction ls with
  | nil => intro i _; rfl
  | cons o r ih =>
    intro i hv
    cases o with
    | none => exact ih (i + 1) (fun v hm => hv v (List.mem_cons_of_mem _ hm))
    | some w =>
      rw [asc, asc, ih (i + 1) (fun v hm => hv v (List.mem_cons_of_mem _ hm)), trV_ag h (hv w List.mem_cons_self)]
theorem Fs.ag {n n' : Nat} {ad ad' : Nat → Nat} {k : Nat} {ls : Lo} {st st' : List PV} {lsR : Array Slot} (hF : Fs ad k n ls st lsR) (h : ∀ p, p < n → ad' p = ad p) (hn : n ≤ n') (hs : ∀ v ∈ st', okV n' v) : Fs ad' k n' ls st' lsR :=
  ⟨by rw [asc_ag h ls 0 hF.2.2.1]; exact hF.1, hF.2.1, fun v hv => okV_mono hn (hF.2.2.1 v hv), hs, hF.2.2.2.2⟩
theorem map_ag {n : Nat} {ad ad' : Nat → Nat} (h : ∀ p, p < n → ad' p = ad p) {st : List PV} (hs : ∀ v ∈ st, okV n v) : st.map (trV ad') = st.map (trV ad) := List.map_congr_left (fun v hv => trV_ag h (hs v hv))
end
section
/-! memory, and the worlds of the kit -/
theorem mkW_arr {S : List Shp} {μ : Mu} {ad : Nat → Nat} {cA : Nat → ClassId} {p n : Nat} {b : Bool} (h : S[p]? = some (.inl (b, n))) {i x : Int} (hi : 0 ≤ i) {z : Int32} (hz : z = oI x) : (mkW S μ ad cA).set p (ad p, .inl (cA p, n, .inl (upd (fun j => oI (μ p (j : Int))) i.toNat z))) = mkW S (u2 μ p i x) ad cA := by
  subst hz
  refine mkW_ext (by rw [List.length_set, mkW_len]) (fun q sh hq => ?_)
  have hl : p < (mkW S μ ad cA).length := by rw [mkW_len]; exact (List.getElem?_eq_some_iff.mp h).1
  by_cases hpq : q = p
  · subst hpq
    rw [List.getElem?_set_self hl]
    rw [h] at hq
    cases hq
    refine congrArg some (congrArg (Prod.mk _) ?_)
    show (Sum.inl _ : va_E) = Sum.inl _
    refine congrArg Sum.inl (congrArg (Prod.mk _) (congrArg (Prod.mk _) (congrArg Sum.inl (funext fun j => ?_))))
    show (if j = i.toNat then oI x else oI (μ q (j : Int))) = oI (u2 μ q i x q (j : Int))
    unfold u2
    rw [if_pos rfl]
    by_cases hj : j = i.toNat
    · rw [if_pos hj, if_pos (by omega)]
    · rw [if_neg hj, if_neg (by omega)]
  · rw [List.getElem?_set_ne (Ne.symm hpq), mkW_at hq]
    refine congrArg some (congrArg (Prod.mk _) ?_)
    have e : u2 μ p i x q = μ q := by unfold u2; rw [if_neg hpq]
    rcases sh with sh | sh
    · show (Sum.inl _ : va_E) = Sum.inl _
      rw [e]
    · show (Sum.inr _ : va_E) = Sum.inr _
      refine congrArg Sum.inr (congrArg (Prod.mk _) ?_)
      refine congrArg (fun f => sh.2.mapIdx f) (funext fun i2 => funext fun o => ?_)
      rcases o with _ | _ | o
      · show Value.int _ = Value.int _
        rw [e]
      · rfl
      · rfl
theorem mkW_fld {S : List Shp} {μ : Mu} {ad : Nat → Nat} {cA : Nat → ClassId} {p ci b : Nat} {fs : List (Option (Option Nat))} (h : S[p]? = some (.inr (ci, fs))) (hb : fs[b]? = some none) {x : Int} : (mkW S μ ad cA).set p (ad p, .inr (ci, (fs.mapIdx (fun i o => fV ad μ p i o)).set b (.int (oI x)))) = mkW S (u2 μ p b x) ad cA := by
  refine mkW_ext (by rw [List.length_set, mkW_len]) (fun q sh hq => ?_)
  have hl : p < (mkW S μ ad cA).length := by rw [mkW_len]; exact (List.getElem?_eq_some_iff.mp h).1
  by_cases hpq : q = p
  · subst hpq
    rw [List.getElem?_set_self hl]
    rw [h] at hq
    cases hq
    refine congrArg some (congrArg (Prod.mk _) ?_)
    show (Sum.inr _ : va_E) = Sum.inr _
    refine congrArg Sum.inr (congrArg (Prod.mk _) ?_)
    apply List.ext_getElem?
    intro j
    have hbl : b < fs.length := (List.getElem?_eq_some_iff.mp hb).1
    by_cases hj : j = b
    · subst hj
      rw [List.getElem?_set_self (by rw [List.length_mapIdx]; exact hbl), List.getElem?_mapIdx, hb]
      show some (Value.int (oI x)) = some (Value.int (oI (u2 μ q j x q j)))
      unfold u2
      rw [if_pos rfl, if_pos rfl]
    · rw [List.getElem?_set_ne (Ne.symm hj), List.getElem?_mapIdx, List.getElem?_mapIdx]
      rcases ho : fs[j]? with _ | o
      · rfl
      · rcases o with _ | _ | o
        · show some (Value.int (oI (μ q j))) = some (Value.int (oI (u2 μ q b x q j)))
          unfold u2
          rw [if_pos rfl, if_neg (by omega)]
        · rfl
        · rfl
  · rw [List.getElem?_set_ne (Ne.symm hpq), mkW_at hq]
    refine congrArg some (congrArg (Prod.mk _) ?_)
    have e : u2 μ p b x q = μ q := by unfold u2; rw [if_neg hpq]
    rcases sh with sh | sh
    · show (Sum.inl _ : va_E) = Sum.inl _
      rw [e]
    · show (Sum.inr _ : va_E) = Sum.inr _
      refine congrArg Sum.inr (congrArg (Prod.mk _) ?_)
      refine congrArg (fun f => sh.2.mapIdx f) (funext fun i2 => funext fun o => ?_)
      rcases o with _ | _ | o
      · show Value.int _ = Value.int _
        rw [e]
      · rfl
      · rfl
theorem mkW_ref {S : List Shp} {μ : Mu} {ad : Nat → Nat} {cA : Nat → ClassId} {p ci b z : Nat} {fs : List (Option (Option Nat))} (h : S[p]? = some (.inr (ci, fs))) : (mkW S μ ad cA).set p (ad p, .inr (ci, (fs.mapIdx (fun i o => fV ad μ p i o)).set b (.ref (ad z)))) = mkW (S.set p (.inr (ci, fs.set b (some (some z))))) μ ad cA := by
  refine mkW_ext (by rw [List.length_set, mkW_len, List.length_set]) (fun q sh hq => ?_)
  have hl0 : p < S.length := (List.getElem?_eq_some_iff.mp h).1
  have hl : p < (mkW S μ ad cA).length := by rw [mkW_len]; exact hl0
  by_cases hpq : q = p
  · subst hpq
    rw [List.getElem?_set_self hl]
    rw [List.getElem?_set_self hl0] at hq
    cases hq
    refine congrArg some (congrArg (Prod.mk _) ?_)
    show (Sum.inr _ : va_E) = Sum.inr _
    refine congrArg Sum.inr (congrArg (Prod.mk _) ?_)
    apply List.ext_getElem?
    intro j
    rw [List.getElem?_mapIdx]
    by_cases hj : j = b
    · subst hj
      by_cases hbl : j < fs.length
      · rw [List.getElem?_set_self (by rw [List.length_mapIdx]; exact hbl), List.getElem?_set_self hbl]
        rfl
      · rw [List.getElem?_eq_none_iff.mpr (by rw [List.length_set, List.length_mapIdx]; omega), List.getElem?_eq_none_iff.mpr (by rw [List.length_set]; omega)]
        rfl
    · rw [List.getElem?_set_ne (Ne.symm hj), List.getElem?_mapIdx, List.getElem?_set_ne (Ne.symm hj)]
  · rw [List.getElem?_set_ne (Ne.symm hpq)]
    rw [List.getElem?_set_ne (Ne.symm hpq)] at hq
    rw [mkW_at hq]
theorem mkW_cpy {S : List Shp} {μ : Mu} {ad : Nat → Nat} {cA : Nat → ClassId} {p q n1 : Nat} {b : Bool} (h : S[q]? = some (.inl (b, n1))) {sp dp n : Int} (h1 : 0 ≤ sp) (h2 : 0 ≤ dp) (h3 : 0 ≤ n) : (mkW S μ ad cA).set q (ad q, .inl (cA q, n1, .inl (va_cpy (fun j => oI (μ p (j : Int))) (fun j => oI (μ q (j : Int))) sp.toNat dp.toNat n.toNat))) = mkW S (cpM μ p q sp dp n) ad cA := by
  refine mkW_ext (by rw [List.length_set, mkW_len]) (fun z sh hq => ?_)
  have hl : q < (mkW S μ ad cA).length := by rw [mkW_len]; exact (List.getElem?_eq_some_iff.mp h).1
  by_cases hpq : z = q
  · subst hpq
    rw [List.getElem?_set_self hl]
    rw [h] at hq
    cases hq
    refine congrArg some (congrArg (Prod.mk _) ?_)
    show (Sum.inl _ : va_E) = Sum.inl _
    refine congrArg Sum.inl (congrArg (Prod.mk _) (congrArg (Prod.mk _) (congrArg Sum.inl (funext fun j => ?_))))
    show (if dp.toNat ≤ j ∧ j < dp.toNat + n.toNat then oI (μ p ((sp.toNat + (j - dp.toNat) : Nat) : Int)) else oI (μ z (j : Int))) = oI (cpM μ p z sp dp n z (j : Int))
    unfold cpM
    rw [if_pos rfl]
    by_cases hj : dp.toNat ≤ j ∧ j < dp.toNat + n.toNat
    · rw [if_pos hj, if_pos (by omega)]
      congr 2
      omega
    · rw [if_neg hj, if_neg (by omega)]
  · rw [List.getElem?_set_ne (Ne.symm hpq), mkW_at hq]
    refine congrArg some (congrArg (Prod.mk _) ?_)
    have e : cpM μ p q sp dp n z = μ z := by unfold cpM; rw [if_neg hpq]
    rcases sh with sh | sh
    · show (Sum.inl _ : va_E) = Sum.inl _
      rw [e]
    · show (Sum.inr _ : va_E) = Sum.inr _
      refine congrArg Sum.inr (congrArg (Prod.mk _) ?_)
      refine congrArg (fun f => sh.2.mapIdx f) (funext fun i2 => funext fun o => ?_)
      rcases o with _ | _ | o
      · show Value.int _ = Value.int _
        rw [e]
      · rfl
      · rfl
def upA {α : Type} (f : Nat → α) (n : Nat) (x : α) : Nat → α := fun q => if q = n then x else f q
theorem upA_lt {α : Type} {f : Nat → α} {n : Nat} {x : α} {q : Nat} (h : q < n) : upA f n x q = f q := if_neg (Nat.ne_of_lt h)
theorem upA_self {α : Type} {f : Nat → α} {n : Nat} {x : α} : upA f n x n = x := if_pos rfl
theorem mkW_push {S : List Shp} {μ : Mu} {ad : Nat → Nat} {cA : Nat → ClassId} {sh : Shp} {a : Nat} {cl : ClassId} {e : va_E} (hOK : ShOK S) (he : e = mkE (upA ad S.length a) (upA cA S.length cl) (u0 μ S.length) S.length sh) : mkW S μ ad cA ++ [(a, e)] = mkW (S ++ [sh]) (u0 μ S.length) (upA ad S.length a) (upA cA S.length cl) := by
  refine mkW_ext (by simp [mkW_len]) (fun q x hq => ?_)
  by_cases hl : q < S.length
  · rw [List.getElem?_append_left hl] at hq
    rw [List.getElem?_append_left (by rw [mkW_len]; exact hl), mkW_at hq, upA_lt hl]
    refine congrArg some (congrArg (Prod.mk _) ?_)
    have e1 : u0 μ S.length q = μ q := by unfold u0; rw [if_neg (Nat.ne_of_lt hl)]
    have ok := hOK q x hq
    rcases x with x | x
    · show (Sum.inl _ : va_E) = Sum.inl _
      rw [e1, upA_lt hl]
    · show (Sum.inr _ : va_E) = Sum.inr _
      refine congrArg Sum.inr (congrArg (Prod.mk _) ?_)
      apply List.ext_getElem?
      intro i
      rw [List.getElem?_mapIdx, List.getElem?_mapIdx]
      rcases ho : x.2[i]? with _ | o
      · rfl
      · have ok2 := ok.2.2 i o ho
        rcases o with _ | _ | o
        · show some (Value.int _) = some (Value.int _)
          rw [e1]
        · rfl
        · show some (Value.ref _) = some (Value.ref _)
          rw [upA_lt ok2.2]
  · have hq2 : q = S.length := by
      have := (List.getElem?_eq_some_iff.mp hq).1
      simp at this
      omega
    subst hq2
    have e2 : (S ++ [sh])[S.length]? = some sh := by simp
    rw [e2] at hq
    cases hq
    rw [upA_self, he]
    simp [mkW_len]
theorem RgM.up {μ : Mu} (h : RgM μ) {p : Nat} {i x : Int} (hx : iR x) : RgM (u2 μ p i x) := by
  intro q j
  unfold u2
  by_cases hq : q = p
  · rw [if_pos hq]
    show iR (if j = i then x else μ p j)
    by_cases hj : j = i
    · rw [if_pos hj]; exact hx
    · rw [if_neg hj]; exact h p j
  · rw [if_neg hq]; exact h q j
theorem RgM.zo {μ : Mu} (h : RgM μ) {p : Nat} : RgM (u0 μ p) := by
  intro q j
  unfold u0
  by_cases hq : q = p
  · rw [if_pos hq]; show iR 0; decide
  · rw [if_neg hq]; exact h q j
theorem RgM.cp {μ : Mu} (h : RgM μ) {p q : Nat} {a b n : Int} : RgM (cpM μ p q a b n) := by
  intro z j
  unfold cpM
  by_cases hq : z = q
  · rw [if_pos hq]
    show iR (if b ≤ j ∧ j < b + n then μ p (a + (j - b)) else μ q j)
    by_cases hj : b ≤ j ∧ j < b + n
    · rw [if_pos hj]; exact h p _
    · rw [if_neg hj]; exact h q j
  · rw [if_neg hq]; exact h z j

section SND
variable {p : Program} {l : Launch} {e : Env} {s : State} {m : MethodId} {args : Array Value} {below : List Frame} {meth : Method} {c : Code} {H : Heap} {locs : List Loc} {Q : State → Prop} {k pc : Nat} {D : va_G} {S : List Shp} {μ : Mu} {ad : Nat → Nat} {cA : Nat → ClassId} {tys : List (ClassId × FieldType)} {A : Nat → Prop} {ls : Lo} {st : List PV} {lsR : Array Slot} {rc rs : Nat}
/-- the words of a frame, any by its place -/
theorem Fx.w (h : Fx p s m args meth c k) {w : Cond} (hm : w ∈ lw_tbl) (g : goodWord w = true) : w.before args s = true := h.2.2.2.2.2.2.1 w (tw_in k _ (tw_mem hm g))
/-- what a step leaves to be shown: the next state's own walk, at whatever addresses new cells got -/
def Cn (p : Program) (l : Launch) (e : Env) (s : State) (m : MethodId) (args : Array Value) (below : List Frame) (meth : Method) (c : Code) (Q : State → Prop) (k : Nat) (D : va_G) (A : Nat → Prop) (n0 : Nat) (ad : Nat → Nat) (cA : Nat → ClassId) (pc' : Nat) (ls' : Lo) (st' : List PV) (M : Mem) : Prop :=
  ∀ (ad' : Nat → Nat) (cA' : Nat → ClassId) (tys' : List (ClassId × FieldType)) (H' : Heap) (locs' : List Loc) (lsR' : Array Slot), (∀ x, x < n0 → ad' x = ad x ∧ cA' x = cA x) → n0 ≤ M.1.length → Wo D M.1 M.2.1 ad' cA' tys' A s H' → va_S A s.heap H' locs' → Fs ad' k M.1.length ls' st' lsR' → M.2.2.1 ≤ mC k → M.2.2.2 ≤ mS k → W p l e (rmK k) s m args below meth c H' locs' (mC k - M.2.2.1) (mS k - M.2.2.2) Q (F0 m pc' lsR' (st'.map (trV ad')))
theorem Cn.go {ls' : Lo} {st' : List PV} {pc' : Nat} {μ' : Mu} {stR : List Value} {cells slots : Nat} (h : Cn p l e s m args below meth c Q k D A S.length ad cA pc' ls' st' (S, μ', rc, rs)) (hWo : Wo D S μ' ad cA tys A s H) (hS : va_S A s.heap H locs) (hF : Fs ad k S.length ls' st' lsR) (hrc : rc ≤ mC k) (hrs : rs ≤ mS k) (hst : st'.map (trV ad) = stR := by rfl) (hc : mC k - rc = cells := by rfl) (hs : mS k - rs = slots := by rfl) : W p l e (rmK k) s m args below meth c H locs cells slots Q (F0 m pc' lsR stR) := by
  subst hst; subst hc; subst hs
  exact h ad cA tys H locs lsR (fun _ _ => ⟨rfl, rfl⟩) (Nat.le_refl _) hWo hS hF hrc hrs
abbrev Hyp (p : Program) (s : State) (m : MethodId) (args : Array Value) (meth : Method) (c : Code) (H : Heap) (locs : List Loc) (k : Nat) (D : va_G) (S : List Shp) (μ : Mu) (ad : Nat → Nat) (cA : Nat → ClassId) (tys : List (ClassId × FieldType)) (A : Nat → Prop) (ls : Lo) (st : List PV) (lsR : Array Slot) (rc rs : Nat) : Prop :=
  Fx p s m args meth c k ∧ Wo D S μ ad cA tys A s H ∧ va_S A s.heap H locs ∧ (∀ q, s.heap.size ≤ q → A q) ∧ Fs ad k S.length ls st lsR ∧ rc ≤ mC k ∧ rs ≤ mS k
theorem Hyp.ok {st2 : List PV} {v : PV} (h : Hyp p s m args meth c H locs k D S μ ad cA tys A ls st lsR rc rs) (hv : v ∈ st) : okV S.length v := h.2.2.2.2.1.2.2.2.1 v hv

theorem sn_iadd {x y : Int} {st' : List PV} (h : Hyp p s m args meth c H locs k D S μ ad cA tys A ls (vI y :: vI x :: st') lsR rc rs) (hd : decode (mB k) pc = .ok (.iadd, 1)) (hq : iR (x + y)) (kk : Cn p l e s m args below meth c Q k D A S.length ad cA (pc + 1) ls (vI (x + y) :: st') (S, μ, rc, rs)) : W p l e (rmK k) s m args below meth c H locs (mC k - rc) (mS k - rs) Q (F0 m pc lsR ((vI y :: vI x :: st').map (trV ad))) := by
  obtain ⟨hX, hWo, hS, hA, hF, hrc, hrs⟩ := h
  have hy : iR y := hF.2.2.2.1 (vI y) (by simp)
  have hx : iR x := hF.2.2.2.1 (vI x) (by simp)
  have hr : iR (x + y) := by first | exact hq | exact hq
  show W p l e (rmK k) s m args below meth c H locs (mC k - rc) (mS k - rs) Q (F0 m pc lsR (.int (oI y) :: .int (oI x) :: st'.map (trV ad)))
  refine lv_iadd hX.2.1 hX.2.2.1 hd ?_
  rw [← oI_add]
  exact kk.go hWo hS (hF.stk (fun v hv => by
    rcases List.mem_cons.mp hv with rfl | hv
    · exact hr
    · exact hF.2.2.2.1 v (by simp [hv]))) hrc hrs
theorem sn_isub {x y : Int} {st' : List PV} (h : Hyp p s m args meth c H locs k D S μ ad cA tys A ls (vI y :: vI x :: st') lsR rc rs) (hd : decode (mB k) pc = .ok (.isub, 1)) (hq : iR (x - y)) (kk : Cn p l e s m args below meth c Q k D A S.length ad cA (pc + 1) ls (vI (x - y) :: st') (S, μ, rc, rs)) : W p l e (rmK k) s m args below meth c H locs (mC k - rc) (mS k - rs) Q (F0 m pc lsR ((vI y :: vI x :: st').map (trV ad))) := by
  obtain ⟨hX, hWo, hS, hA, hF, hrc, hrs⟩ := h
  have hy : iR y := hF.2.2.2.1 (vI y) (by simp)
  have hx : iR x := hF.2.2.2.1 (vI x) (by simp)
  have hr : iR (x - y) := by first | exact hq | exact hq
  show W p l e (rmK k) s m args below meth c H locs (mC k - rc) (mS k - rs) Q (F0 m pc lsR (.int (oI y) :: .int (oI x) :: st'.map (trV ad)))
  refine lv_isub hX.2.1 hX.2.2.1 hd ?_
  rw [← oI_sub]
  exact kk.go hWo hS (hF.stk (fun v hv => by
    rcases List.mem_cons.mp hv with rfl | hv
    · exact hr
    · exact hF.2.2.2.1 v (by simp [hv]))) hrc hrs
theorem sn_imul {x y : Int} {st' : List PV} (h : Hyp p s m args meth c H locs k D S μ ad cA tys A ls (vI y :: vI x :: st') lsR rc rs) (hd : decode (mB k) pc = .ok (.imul, 1)) (hq : iR (x * y)) (kk : Cn p l e s m args below meth c Q k D A S.length ad cA (pc + 1) ls (vI (x * y) :: st') (S, μ, rc, rs)) : W p l e (rmK k) s m args below meth c H locs (mC k - rc) (mS k - rs) Q (F0 m pc lsR ((vI y :: vI x :: st').map (trV ad))) := by
  obtain ⟨hX, hWo, hS, hA, hF, hrc, hrs⟩ := h
  have hy : iR y := hF.2.2.2.1 (vI y) (by simp)
  have hx : iR x := hF.2.2.2.1 (vI x) (by simp)
  have hr : iR (x * y) := by first | exact hq | exact hq
  show W p l e (rmK k) s m args below meth c H locs (mC k - rc) (mS k - rs) Q (F0 m pc lsR (.int (oI y) :: .int (oI x) :: st'.map (trV ad)))
  refine lv_imul hX.2.1 hX.2.2.1 hd ?_
  rw [← oI_mul]
  exact kk.go hWo hS (hF.stk (fun v hv => by
    rcases List.mem_cons.mp hv with rfl | hv
    · exact hr
    · exact hF.2.2.2.1 v (by simp [hv]))) hrc hrs
theorem sn_idiv {x y : Int} {st' : List PV} (h : Hyp p s m args meth c H locs k D S μ ad cA tys A ls (vI y :: vI x :: st') lsR rc rs) (hd : decode (mB k) pc = .ok (.idiv, 1)) (hq : 0 ≤ x ∧ 0 < y) (kk : Cn p l e s m args below meth c Q k D A S.length ad cA (pc + 1) ls (vI (x / y) :: st') (S, μ, rc, rs)) : W p l e (rmK k) s m args below meth c H locs (mC k - rc) (mS k - rs) Q (F0 m pc lsR ((vI y :: vI x :: st').map (trV ad))) := by
  obtain ⟨hX, hWo, hS, hA, hF, hrc, hrs⟩ := h
  have hy : iR y := hF.2.2.2.1 (vI y) (by simp)
  have hx : iR x := hF.2.2.2.1 (vI x) (by simp)
  have hr : iR (x / y) := by first | exact hq | (have h1 := Int.ediv_nonneg hq.1 (Int.le_of_lt hq.2); have h2 := Int.ediv_le_self y hq.1; show iR (x / y); constructor <;> omega)
  show W p l e (rmK k) s m args below meth c H locs (mC k - rc) (mS k - rs) Q (F0 m pc lsR (.int (oI y) :: .int (oI x) :: st'.map (trV ad)))
  refine lv_idiv hX.2.1 hX.2.2.1 hd (fun z => by rw [← oI_0, oI_eq hy (by decide)] at z; omega) ?_
  rw [← oI_div hx hy hq]
  exact kk.go hWo hS (hF.stk (fun v hv => by
    rcases List.mem_cons.mp hv with rfl | hv
    · exact hr
    · exact hF.2.2.2.1 v (by simp [hv]))) hrc hrs
theorem sn_irem {x y : Int} {st' : List PV} (h : Hyp p s m args meth c H locs k D S μ ad cA tys A ls (vI y :: vI x :: st') lsR rc rs) (hd : decode (mB k) pc = .ok (.irem, 1)) (hq : 0 ≤ x ∧ 0 < y) (kk : Cn p l e s m args below meth c Q k D A S.length ad cA (pc + 1) ls (vI (x % y) :: st') (S, μ, rc, rs)) : W p l e (rmK k) s m args below meth c H locs (mC k - rc) (mS k - rs) Q (F0 m pc lsR ((vI y :: vI x :: st').map (trV ad))) := by
  obtain ⟨hX, hWo, hS, hA, hF, hrc, hrs⟩ := h
  have hy : iR y := hF.2.2.2.1 (vI y) (by simp)
  have hx : iR x := hF.2.2.2.1 (vI x) (by simp)
  have hr : iR (x % y) := by first | exact hq | (have h1 := Int.emod_nonneg x (Int.ne_of_gt hq.2); have h2 := Int.emod_lt_of_pos x hq.2; show iR (x % y); constructor <;> omega)
  show W p l e (rmK k) s m args below meth c H locs (mC k - rc) (mS k - rs) Q (F0 m pc lsR (.int (oI y) :: .int (oI x) :: st'.map (trV ad)))
  refine lv_irem hX.2.1 hX.2.2.1 hd (fun z => by rw [← oI_0, oI_eq hy (by decide)] at z; omega) ?_
  rw [← oI_rem hx hy hq]
  exact kk.go hWo hS (hF.stk (fun v hv => by
    rcases List.mem_cons.mp hv with rfl | hv
    · exact hr
    · exact hF.2.2.2.1 v (by simp [hv]))) hrc hrs
theorem sn_ishl {x y : Int} {st' : List PV} (h : Hyp p s m args meth c H locs k D S μ ad cA tys A ls (vI y :: vI x :: st') lsR rc rs) (hd : decode (mB k) pc = .ok (.ishl, 1)) (hq : 0 ≤ x ∧ 0 ≤ y ∧ y < 31 ∧ x * 2 ^ y.toNat ≤ 2147483647) (kk : Cn p l e s m args below meth c Q k D A S.length ad cA (pc + 1) ls (vI (x * 2 ^ y.toNat) :: st') (S, μ, rc, rs)) : W p l e (rmK k) s m args below meth c H locs (mC k - rc) (mS k - rs) Q (F0 m pc lsR ((vI y :: vI x :: st').map (trV ad))) := by
  obtain ⟨hX, hWo, hS, hA, hF, hrc, hrs⟩ := h
  have hy : iR y := hF.2.2.2.1 (vI y) (by simp)
  have hx : iR x := hF.2.2.2.1 (vI x) (by simp)
  have hr : iR (x * 2 ^ y.toNat) := by first | exact hq | (have h1 : 0 ≤ x * 2 ^ y.toNat := Int.mul_nonneg hq.1 (Int.pow_nonneg (by decide)); show iR (x * 2 ^ y.toNat); constructor <;> omega)
  show W p l e (rmK k) s m args below meth c H locs (mC k - rc) (mS k - rs) Q (F0 m pc lsR (.int (oI y) :: .int (oI x) :: st'.map (trV ad)))
  refine lv_ishl hX.2.1 hX.2.2.1 hd ?_
  rw [← oI_shl hx hq]
  exact kk.go hWo hS (hF.stk (fun v hv => by
    rcases List.mem_cons.mp hv with rfl | hv
    · exact hr
    · exact hF.2.2.2.1 v (by simp [hv]))) hrc hrs
theorem sn_ishr {x y : Int} {st' : List PV} (h : Hyp p s m args meth c H locs k D S μ ad cA tys A ls (vI y :: vI x :: st') lsR rc rs) (hd : decode (mB k) pc = .ok (.ishr, 1)) (hq : 0 ≤ x ∧ 0 ≤ y ∧ y < 31) (kk : Cn p l e s m args below meth c Q k D A S.length ad cA (pc + 1) ls (vI (x / 2 ^ y.toNat) :: st') (S, μ, rc, rs)) : W p l e (rmK k) s m args below meth c H locs (mC k - rc) (mS k - rs) Q (F0 m pc lsR ((vI y :: vI x :: st').map (trV ad))) := by
  obtain ⟨hX, hWo, hS, hA, hF, hrc, hrs⟩ := h
  have hy : iR y := hF.2.2.2.1 (vI y) (by simp)
  have hx : iR x := hF.2.2.2.1 (vI x) (by simp)
  have hr : iR (x / 2 ^ y.toNat) := by first | exact hq | (have h1 := Int.ediv_nonneg hq.1 (Int.pow_nonneg (by decide) : (0 : Int) ≤ 2 ^ y.toNat); have h2 := Int.ediv_le_self (2 ^ y.toNat) hq.1; show iR (x / 2 ^ y.toNat); constructor <;> omega)
  show W p l e (rmK k) s m args below meth c H locs (mC k - rc) (mS k - rs) Q (F0 m pc lsR (.int (oI y) :: .int (oI x) :: st'.map (trV ad)))
  refine lv_ishr hX.2.1 hX.2.2.1 hd ?_
  rw [← oI_shr hx hq]
  exact kk.go hWo hS (hF.stk (fun v hv => by
    rcases List.mem_cons.mp hv with rfl | hv
    · exact hr
    · exact hF.2.2.2.1 v (by simp [hv]))) hrc hrs
theorem sn_iand {x y : Int} {st' : List PV} (h : Hyp p s m args meth c H locs k D S μ ad cA tys A ls (vI y :: vI x :: st') lsR rc rs) (hd : decode (mB k) pc = .ok (.iand, 1)) (hq : 0 ≤ x ∧ 0 ≤ y) (kk : Cn p l e s m args below meth c Q k D A S.length ad cA (pc + 1) ls (vI (((x.toNat &&& y.toNat : Nat) : Int)) :: st') (S, μ, rc, rs)) : W p l e (rmK k) s m args below meth c H locs (mC k - rc) (mS k - rs) Q (F0 m pc lsR ((vI y :: vI x :: st').map (trV ad))) := by
  obtain ⟨hX, hWo, hS, hA, hF, hrc, hrs⟩ := h
  have hy : iR y := hF.2.2.2.1 (vI y) (by simp)
  have hx : iR x := hF.2.2.2.1 (vI x) (by simp)
  have hr : iR (((x.toNat &&& y.toNat : Nat) : Int)) := by first | exact hq | (have h1 : x.toNat &&& y.toNat ≤ x.toNat := Nat.and_le_left; show iR ((x.toNat &&& y.toNat : Nat) : Int); constructor <;> omega)
  show W p l e (rmK k) s m args below meth c H locs (mC k - rc) (mS k - rs) Q (F0 m pc lsR (.int (oI y) :: .int (oI x) :: st'.map (trV ad)))
  refine lv_iand hX.2.1 hX.2.2.1 hd ?_
  rw [← oI_and hx hy hq]
  exact kk.go hWo hS (hF.stk (fun v hv => by
    rcases List.mem_cons.mp hv with rfl | hv
    · exact hr
    · exact hF.2.2.2.1 v (by simp [hv]))) hrc hrs
theorem sn_ior {x y : Int} {st' : List PV} (h : Hyp p s m args meth c H locs k D S μ ad cA tys A ls (vI y :: vI x :: st') lsR rc rs) (hd : decode (mB k) pc = .ok (.ior, 1)) (hq : 0 ≤ x ∧ 0 ≤ y) (kk : Cn p l e s m args below meth c Q k D A S.length ad cA (pc + 1) ls (vI (((x.toNat ||| y.toNat : Nat) : Int)) :: st') (S, μ, rc, rs)) : W p l e (rmK k) s m args below meth c H locs (mC k - rc) (mS k - rs) Q (F0 m pc lsR ((vI y :: vI x :: st').map (trV ad))) := by
  obtain ⟨hX, hWo, hS, hA, hF, hrc, hrs⟩ := h
  have hy : iR y := hF.2.2.2.1 (vI y) (by simp)
  have hx : iR x := hF.2.2.2.1 (vI x) (by simp)
  have hr : iR (((x.toNat ||| y.toNat : Nat) : Int)) := by first | exact hq | (have h1 : x.toNat ||| y.toNat < 2 ^ 31 := or_lt31 (by omega) (by omega); show iR ((x.toNat ||| y.toNat : Nat) : Int); constructor <;> omega)
  show W p l e (rmK k) s m args below meth c H locs (mC k - rc) (mS k - rs) Q (F0 m pc lsR (.int (oI y) :: .int (oI x) :: st'.map (trV ad)))
  refine lv_ior hX.2.1 hX.2.2.1 hd ?_
  rw [← oI_or hx hy hq]
  exact kk.go hWo hS (hF.stk (fun v hv => by
    rcases List.mem_cons.mp hv with rfl | hv
    · exact hr
    · exact hF.2.2.2.1 v (by simp [hv]))) hrc hrs
theorem sn_ixor {x y : Int} {st' : List PV} (h : Hyp p s m args meth c H locs k D S μ ad cA tys A ls (vI y :: vI x :: st') lsR rc rs) (hd : decode (mB k) pc = .ok (.ixor, 1)) (hq : 0 ≤ x ∧ 0 ≤ y) (kk : Cn p l e s m args below meth c Q k D A S.length ad cA (pc + 1) ls (vI (((x.toNat ^^^ y.toNat : Nat) : Int)) :: st') (S, μ, rc, rs)) : W p l e (rmK k) s m args below meth c H locs (mC k - rc) (mS k - rs) Q (F0 m pc lsR ((vI y :: vI x :: st').map (trV ad))) := by
  obtain ⟨hX, hWo, hS, hA, hF, hrc, hrs⟩ := h
  have hy : iR y := hF.2.2.2.1 (vI y) (by simp)
  have hx : iR x := hF.2.2.2.1 (vI x) (by simp)
  have hr : iR (((x.toNat ^^^ y.toNat : Nat) : Int)) := by first | exact hq | (have h1 : x.toNat ^^^ y.toNat < 2 ^ 31 := xor_lt31 (by omega) (by omega); show iR ((x.toNat ^^^ y.toNat : Nat) : Int); constructor <;> omega)
  show W p l e (rmK k) s m args below meth c H locs (mC k - rc) (mS k - rs) Q (F0 m pc lsR (.int (oI y) :: .int (oI x) :: st'.map (trV ad)))
  refine lv_ixor hX.2.1 hX.2.2.1 hd ?_
  rw [← oI_xor hx hy hq]
  exact kk.go hWo hS (hF.stk (fun v hv => by
    rcases List.mem_cons.mp hv with rfl | hv
    · exact hr
    · exact hF.2.2.2.1 v (by simp [hv]))) hrc hrs
theorem sn_iconst {n v : Int} (h : Hyp p s m args meth c H locs k D S μ ad cA tys A ls st lsR rc rs) (hd : decode (mB k) pc = .ok (.iconst n, 1)) (hv : Int32.ofInt n = Int32.ofInt v ∧ iR v) (kk : Cn p l e s m args below meth c Q k D A S.length ad cA (pc + 1) ls (vI v :: st) (S, μ, rc, rs)) : W p l e (rmK k) s m args below meth c H locs (mC k - rc) (mS k - rs) Q (F0 m pc lsR (st.map (trV ad))) := by
  obtain ⟨hX, hWo, hS, hA, hF, hrc, hrs⟩ := h
  refine lv_iconst hX.2.1 hX.2.2.1 hd hv.1 ?_
  exact kk.go hWo hS (hF.stk (fun w hw => by
    rcases List.mem_cons.mp hw with rfl | hw
    · exact hv.2
    · exact hF.2.2.2.1 w hw)) hrc hrs
theorem sn_bipush {n v : Int} (h : Hyp p s m args meth c H locs k D S μ ad cA tys A ls st lsR rc rs) (hd : decode (mB k) pc = .ok (.bipush n, 2)) (hv : (Int8.ofInt n).toInt32 = Int32.ofInt v ∧ iR v) (kk : Cn p l e s m args below meth c Q k D A S.length ad cA (pc + 2) ls (vI v :: st) (S, μ, rc, rs)) : W p l e (rmK k) s m args below meth c H locs (mC k - rc) (mS k - rs) Q (F0 m pc lsR (st.map (trV ad))) := by
  obtain ⟨hX, hWo, hS, hA, hF, hrc, hrs⟩ := h
  refine lv_bipush hX.2.1 hX.2.2.1 hd hv.1 ?_
  exact kk.go hWo hS (hF.stk (fun w hw => by
    rcases List.mem_cons.mp hw with rfl | hw
    · exact hv.2
    · exact hF.2.2.2.1 w hw)) hrc hrs
theorem sn_sipush {n v : Int} (h : Hyp p s m args meth c H locs k D S μ ad cA tys A ls st lsR rc rs) (hd : decode (mB k) pc = .ok (.sipush n, 3)) (hv : (Int16.ofInt n).toInt32 = Int32.ofInt v ∧ iR v) (kk : Cn p l e s m args below meth c Q k D A S.length ad cA (pc + 3) ls (vI v :: st) (S, μ, rc, rs)) : W p l e (rmK k) s m args below meth c H locs (mC k - rc) (mS k - rs) Q (F0 m pc lsR (st.map (trV ad))) := by
  obtain ⟨hX, hWo, hS, hA, hF, hrc, hrs⟩ := h
  refine lv_sipush hX.2.1 hX.2.2.1 hd hv.1 ?_
  exact kk.go hWo hS (hF.stk (fun w hw => by
    rcases List.mem_cons.mp hw with rfl | hw
    · exact hv.2
    · exact hF.2.2.2.1 w hw)) hrc hrs
theorem sn_lconst {n : Fin 2} {v : Int} (h : Hyp p s m args meth c H locs k D S μ ad cA tys A ls st lsR rc rs) (hd : decode (mB k) pc = .ok (.lconst n, 1)) (hv : Int64.ofNat (n : Nat) = Int64.ofInt v ∧ iR v) (kk : Cn p l e s m args below meth c Q k D A S.length ad cA (pc + 1) ls (vL v :: st) (S, μ, rc, rs)) : W p l e (rmK k) s m args below meth c H locs (mC k - rc) (mS k - rs) Q (F0 m pc lsR (st.map (trV ad))) := by
  obtain ⟨hX, hWo, hS, hA, hF, hrc, hrs⟩ := h
  refine lv_lconst hX.2.1 hX.2.2.1 hd hv.1 ?_
  exact kk.go hWo hS (hF.stk (fun w hw => by
    rcases List.mem_cons.mp hw with rfl | hw
    · exact hv.2
    · exact hF.2.2.2.1 w hw)) hrc hrs
theorem sn_ldc2 {i : Nat} {v : Int} (h : Hyp p s m args meth c H locs k D S μ ad cA tys A ls st lsR rc rs) (hd : decode (mB k) pc = .ok (.ldc2_w i, 3)) (hv : Cond.constantLong (nmC (mI k)) i (Int64.ofInt v) ∈ lw_tbl ∧ iR v) (kk : Cn p l e s m args below meth c Q k D A S.length ad cA (pc + 3) ls (vL v :: st) (S, μ, rc, rs)) : W p l e (rmK k) s m args below meth c H locs (mC k - rc) (mS k - rs) Q (F0 m pc lsR (st.map (trV ad))) := by
  obtain ⟨hX, hWo, hS, hA, hF, hrc, hrs⟩ := h
  refine lv_ldc2 hX.2.1 hX.2.2.1 hX.2.2.2.2.2.1 (hX.w hv.1 rfl) hd ?_
  exact kk.go hWo hS (hF.stk (fun w hw => by
    rcases List.mem_cons.mp hw with rfl | hw
    · exact hv.2
    · exact hF.2.2.2.1 w hw)) hrc hrs
theorem sn_iload {i : Nat} {x : Int} (h : Hyp p s m args meth c H locs k D S μ ad cA tys A ls st lsR rc rs) (hd : decode (mB k) pc = .ok (.iload i, 2)) (hl : ls.getD i none = some (vI x)) (kk : Cn p l e s m args below meth c Q k D A S.length ad cA (pc + 2) ls (vI x :: st) (S, μ, rc, rs)) : W p l e (rmK k) s m args below meth c H locs (mC k - rc) (mS k - rs) Q (F0 m pc lsR (st.map (trV ad))) := by
  obtain ⟨hX, hWo, hS, hA, hF, hrc, hrs⟩ := h
  refine lv_iload hX.2.1 hX.2.2.1 hd (hF.at hl).1 ?_
  exact kk.go hWo hS (hF.stk (fun w hw => by
    rcases List.mem_cons.mp hw with rfl | hw
    · exact (hF.at hl).2
    · exact hF.2.2.2.1 w hw)) hrc hrs
theorem sn_iload_n {i : Fin 4} {x : Int} (h : Hyp p s m args meth c H locs k D S μ ad cA tys A ls st lsR rc rs) (hd : decode (mB k) pc = .ok (.iload_n i, 1)) (hl : ls.getD (i : Nat) none = some (vI x)) (kk : Cn p l e s m args below meth c Q k D A S.length ad cA (pc + 1) ls (vI x :: st) (S, μ, rc, rs)) : W p l e (rmK k) s m args below meth c H locs (mC k - rc) (mS k - rs) Q (F0 m pc lsR (st.map (trV ad))) := by
  obtain ⟨hX, hWo, hS, hA, hF, hrc, hrs⟩ := h
  refine lv_iload_n hX.2.1 hX.2.2.1 hd rfl (hF.at hl).1 ?_
  exact kk.go hWo hS (hF.stk (fun w hw => by
    rcases List.mem_cons.mp hw with rfl | hw
    · exact (hF.at hl).2
    · exact hF.2.2.2.1 w hw)) hrc hrs
theorem sn_lload {i : Nat} {x : Int} (h : Hyp p s m args meth c H locs k D S μ ad cA tys A ls st lsR rc rs) (hd : decode (mB k) pc = .ok (.lload i, 2)) (hl : ls.getD i none = some (vL x)) (kk : Cn p l e s m args below meth c Q k D A S.length ad cA (pc + 2) ls (vL x :: st) (S, μ, rc, rs)) : W p l e (rmK k) s m args below meth c H locs (mC k - rc) (mS k - rs) Q (F0 m pc lsR (st.map (trV ad))) := by
  obtain ⟨hX, hWo, hS, hA, hF, hrc, hrs⟩ := h
  refine lv_lload hX.2.1 hX.2.2.1 hd (hF.at hl).1 ?_
  exact kk.go hWo hS (hF.stk (fun w hw => by
    rcases List.mem_cons.mp hw with rfl | hw
    · exact (hF.at hl).2
    · exact hF.2.2.2.1 w hw)) hrc hrs
theorem sn_lload_n {i : Fin 4} {x : Int} (h : Hyp p s m args meth c H locs k D S μ ad cA tys A ls st lsR rc rs) (hd : decode (mB k) pc = .ok (.lload_n i, 1)) (hl : ls.getD (i : Nat) none = some (vL x)) (kk : Cn p l e s m args below meth c Q k D A S.length ad cA (pc + 1) ls (vL x :: st) (S, μ, rc, rs)) : W p l e (rmK k) s m args below meth c H locs (mC k - rc) (mS k - rs) Q (F0 m pc lsR (st.map (trV ad))) := by
  obtain ⟨hX, hWo, hS, hA, hF, hrc, hrs⟩ := h
  refine lv_lload_n hX.2.1 hX.2.2.1 hd rfl (hF.at hl).1 ?_
  exact kk.go hWo hS (hF.stk (fun w hw => by
    rcases List.mem_cons.mp hw with rfl | hw
    · exact (hF.at hl).2
    · exact hF.2.2.2.1 w hw)) hrc hrs
theorem sn_aload {i : Nat} {x : Nat} (h : Hyp p s m args meth c H locs k D S μ ad cA tys A ls st lsR rc rs) (hd : decode (mB k) pc = .ok (.aload i, 2)) (hl : ls.getD i none = some (vR x)) (kk : Cn p l e s m args below meth c Q k D A S.length ad cA (pc + 2) ls (vR x :: st) (S, μ, rc, rs)) : W p l e (rmK k) s m args below meth c H locs (mC k - rc) (mS k - rs) Q (F0 m pc lsR (st.map (trV ad))) := by
  obtain ⟨hX, hWo, hS, hA, hF, hrc, hrs⟩ := h
  refine lv_aload hX.2.1 hX.2.2.1 hd (hF.at hl).1 ?_
  exact kk.go hWo hS (hF.stk (fun w hw => by
    rcases List.mem_cons.mp hw with rfl | hw
    · exact (hF.at hl).2
    · exact hF.2.2.2.1 w hw)) hrc hrs
theorem sn_aload_n {i : Fin 4} {x : Nat} (h : Hyp p s m args meth c H locs k D S μ ad cA tys A ls st lsR rc rs) (hd : decode (mB k) pc = .ok (.aload_n i, 1)) (hl : ls.getD (i : Nat) none = some (vR x)) (kk : Cn p l e s m args below meth c Q k D A S.length ad cA (pc + 1) ls (vR x :: st) (S, μ, rc, rs)) : W p l e (rmK k) s m args below meth c H locs (mC k - rc) (mS k - rs) Q (F0 m pc lsR (st.map (trV ad))) := by
  obtain ⟨hX, hWo, hS, hA, hF, hrc, hrs⟩ := h
  refine lv_aload_n hX.2.1 hX.2.2.1 hd rfl (hF.at hl).1 ?_
  exact kk.go hWo hS (hF.stk (fun w hw => by
    rcases List.mem_cons.mp hw with rfl | hw
    · exact (hF.at hl).2
    · exact hF.2.2.2.1 w hw)) hrc hrs
theorem sn_istore {i : Nat} {x : Int} {st' : List PV} (h : Hyp p s m args meth c H locs k D S μ ad cA tys A ls (vI x :: st') lsR rc rs) (hd : decode (mB k) pc = .ok (.istore i, 2)) (hi : i < mL k) (hk : nL k = true) (kk : Cn p l e s m args below meth c Q k D A S.length ad cA (pc + 2) (ls.set i (some (vI x))) st' (S, μ, rc, rs)) : W p l e (rmK k) s m args below meth c H locs (mC k - rc) (mS k - rs) Q (F0 m pc lsR ((vI x :: st').map (trV ad))) := by
  obtain ⟨hX, hWo, hS, hA, hF, hrc, hrs⟩ := h
  show W p l e (rmK k) s m args below meth c H locs (mC k - rc) (mS k - rs) Q (F0 m pc lsR (.int (oI x) :: st'.map (trV ad)))
  refine lv_istore hX.2.1 hX.2.2.1 hd hF.1 hi rfl (fun lsR' hl' => ?_)
  exact kk.go hWo hS (hF.set hk (v := vI x) (hF.2.2.2.1 (vI x) (by simp)) rfl (fun v hv => hF.2.2.2.1 v (by simp [hv])) hl') hrc hrs
theorem sn_istore_n {i : Fin 4} {x : Int} {st' : List PV} (h : Hyp p s m args meth c H locs k D S μ ad cA tys A ls (vI x :: st') lsR rc rs) (hd : decode (mB k) pc = .ok (.istore_n i, 1)) (hi : (i : Nat) < mL k) (hk : nL k = true) (kk : Cn p l e s m args below meth c Q k D A S.length ad cA (pc + 1) (ls.set (i : Nat) (some (vI x))) st' (S, μ, rc, rs)) : W p l e (rmK k) s m args below meth c H locs (mC k - rc) (mS k - rs) Q (F0 m pc lsR ((vI x :: st').map (trV ad))) := by
  obtain ⟨hX, hWo, hS, hA, hF, hrc, hrs⟩ := h
  show W p l e (rmK k) s m args below meth c H locs (mC k - rc) (mS k - rs) Q (F0 m pc lsR (.int (oI x) :: st'.map (trV ad)))
  refine lv_istore_n hX.2.1 hX.2.2.1 hd rfl hF.1 hi rfl (fun lsR' hl' => ?_)
  exact kk.go hWo hS (hF.set hk (v := vI x) (hF.2.2.2.1 (vI x) (by simp)) rfl (fun v hv => hF.2.2.2.1 v (by simp [hv])) hl') hrc hrs
theorem sn_iinc {i : Nat} {n v x : Int} (h : Hyp p s m args meth c H locs k D S μ ad cA tys A ls st lsR rc rs) (hd : decode (mB k) pc = .ok (.iinc i n, 3)) (hi : i < mL k) (hk : nL k = true) (hv : Int32.ofInt n = Int32.ofInt v ∧ iR v) (hl : ls.getD i none = some (vI x)) (hr : iR (x + v)) (kk : Cn p l e s m args below meth c Q k D A S.length ad cA (pc + 3) (ls.set i (some (vI (x + v)))) st (S, μ, rc, rs)) : W p l e (rmK k) s m args below meth c H locs (mC k - rc) (mS k - rs) Q (F0 m pc lsR (st.map (trV ad))) := by
  obtain ⟨hX, hWo, hS, hA, hF, hrc, hrs⟩ := h
  have h1 := hF.at hl
  have h2 : ls[i]? = some (some (vI x)) := by
    rw [List.getD_eq_getElem?_getD] at hl
    cases hj : ls[i]? with
    | none => rw [hj] at hl; cases hl
    | some o => rw [hj] at hl; exact congrArg some hl
  have h3 : (i, Value.int (oI x)) ∈ asc ad 0 ls := (asc_mem ls 0 _).mpr ⟨i, vI x, h2, by rw [Nat.zero_add]; rfl⟩
  obtain ⟨z, hz⟩ := List.getElem?_of_mem h3
  refine lv_iinc (k := z) (v := oI (x + v)) hX.2.1 hX.2.2.1 hd hF.1 hz (by rw [hv.1]; exact (oI_add x v).symm) hi rfl (fun lsR' hl' => ?_)
  exact kk.go hWo hS (hF.set hk (v := vI (x + v)) hr rfl hF.2.2.2.1 hl') hrc hrs
theorem sn_i2l {x : Int} {st' : List PV} (h : Hyp p s m args meth c H locs k D S μ ad cA tys A ls (vI x :: st') lsR rc rs) (hd : decode (mB k) pc = .ok (.i2l, 1)) (kk : Cn p l e s m args below meth c Q k D A S.length ad cA (pc + 1) ls (vL x :: st') (S, μ, rc, rs)) : W p l e (rmK k) s m args below meth c H locs (mC k - rc) (mS k - rs) Q (F0 m pc lsR ((vI x :: st').map (trV ad))) := by
  obtain ⟨hX, hWo, hS, hA, hF, hrc, hrs⟩ := h
  have hx : iR x := hF.2.2.2.1 (vI x) (by simp)
  show W p l e (rmK k) s m args below meth c H locs (mC k - rc) (mS k - rs) Q (F0 m pc lsR (.int (oI x) :: st'.map (trV ad)))
  refine lv_i2l hX.2.1 hX.2.2.1 hd (oI_long hx) ?_
  exact kk.go hWo hS (hF.stk (fun v hv => by
    rcases List.mem_cons.mp hv with rfl | hv
    · exact hx
    · exact hF.2.2.2.1 v (by simp [hv]))) hrc hrs
theorem sn_lcmp {x y : Int} {st' : List PV} (h : Hyp p s m args meth c H locs k D S μ ad cA tys A ls (vL y :: vL x :: st') lsR rc rs) (hd : decode (mB k) pc = .ok (.lcmp, 1)) (kk : Cn p l e s m args below meth c Q k D A S.length ad cA (pc + 1) ls (vI (if y < x then 1 else if x = y then 0 else -1) :: st') (S, μ, rc, rs)) : W p l e (rmK k) s m args below meth c H locs (mC k - rc) (mS k - rs) Q (F0 m pc lsR ((vL y :: vL x :: st').map (trV ad))) := by
  obtain ⟨hX, hWo, hS, hA, hF, hrc, hrs⟩ := h
  have hy : iR y := hF.2.2.2.1 (vL y) (by simp)
  have hx : iR x := hF.2.2.2.1 (vL x) (by simp)
  show W p l e (rmK k) s m args below meth c H locs (mC k - rc) (mS k - rs) Q (F0 m pc lsR (.long (Int64.ofInt y) :: .long (Int64.ofInt x) :: st'.map (trV ad)))
  refine W.lcmp hX.2.1 hX.2.2.1 hd ?_
  rw [oI_cmp hx hy]
  exact kk.go hWo hS (hF.stk (fun v hv => by
    rcases List.mem_cons.mp hv with rfl | hv
    · show iR _
      split
      · decide
      · split <;> decide
    · exact hF.2.2.2.1 v (by simp [hv]))) hrc hrs
theorem sn_dup {v : PV} {st' : List PV} (h : Hyp p s m args meth c H locs k D S μ ad cA tys A ls (v :: st') lsR rc rs) (hd : decode (mB k) pc = .ok (.dup, 1)) (hv : isL v = false) (kk : Cn p l e s m args below meth c Q k D A S.length ad cA (pc + 1) ls (v :: v :: st') (S, μ, rc, rs)) : W p l e (rmK k) s m args below meth c H locs (mC k - rc) (mS k - rs) Q (F0 m pc lsR ((v :: st').map (trV ad))) := by
  obtain ⟨hX, hWo, hS, hA, hF, hrc, hrs⟩ := h
  refine lv_dup hX.2.1 hX.2.2.1 hd (by rw [trV_cat, hv]; rfl) ?_
  exact kk.go hWo hS (hF.stk (fun w hw => hF.2.2.2.1 w (by simp at hw ⊢; exact hw))) hrc hrs
theorem sn_dup2 {v v2 : PV} {st' : List PV} (h : Hyp p s m args meth c H locs k D S μ ad cA tys A ls (v :: v2 :: st') lsR rc rs) (hd : decode (mB k) pc = .ok (.dup2, 1)) (hv : isL v = false) (hv2 : isL v2 = false) (kk : Cn p l e s m args below meth c Q k D A S.length ad cA (pc + 1) ls (v :: v2 :: v :: v2 :: st') (S, μ, rc, rs)) : W p l e (rmK k) s m args below meth c H locs (mC k - rc) (mS k - rs) Q (F0 m pc lsR ((v :: v2 :: st').map (trV ad))) := by
  obtain ⟨hX, hWo, hS, hA, hF, hrc, hrs⟩ := h
  refine lv_dup2_11 hX.2.1 hX.2.2.1 hd (by rw [trV_cat, hv]; rfl) (by rw [trV_cat, hv2]; rfl) ?_
  exact kk.go hWo hS (hF.stk (fun w hw => hF.2.2.2.1 w (by
    simp only [List.mem_cons] at hw ⊢
    rcases hw with h | h | h | h | h <;> simp [h]))) hrc hrs
theorem sn_goto {off : Int} {tgt : Nat} (h : Hyp p s m args meth c H locs k D S μ ad cA tys A ls st lsR rc rs) (hd : decode (mB k) pc = .ok (.goto off, 3)) (ht : (pc : Int) + off = (tgt : Int)) (kk : Cn p l e s m args below meth c Q k D A S.length ad cA tgt ls st (S, μ, rc, rs)) : W p l e (rmK k) s m args below meth c H locs (mC k - rc) (mS k - rs) Q (F0 m pc lsR (st.map (trV ad))) := by
  obtain ⟨hX, hWo, hS, hA, hF, hrc, hrs⟩ := h
  exact lv_goto hX.2.1 hX.2.2.1 hd ht (kk.go hWo hS hF hrc hrs)
theorem sn_icmp {cd : ClassFile.Cond} {off : Int} {tgt : Nat} {x y : Int} {st' : List PV} (h : Hyp p s m args meth c H locs k D S μ ad cA tys A ls (vI y :: vI x :: st') lsR rc rs) (hd : decode (mB k) pc = .ok (.if_icmp cd off, 3)) (ht : (pc : Int) + off = (tgt : Int)) (kk : Cn p l e s m args below meth c Q k D A S.length ad cA (if cmpI cd x y then tgt else pc + 3) ls st' (S, μ, rc, rs)) : W p l e (rmK k) s m args below meth c H locs (mC k - rc) (mS k - rs) Q (F0 m pc lsR ((vI y :: vI x :: st').map (trV ad))) := by
  obtain ⟨hX, hWo, hS, hA, hF, hrc, hrs⟩ := h
  have hy : iR y := hF.2.2.2.1 (vI y) (by simp)
  have hx : iR x := hF.2.2.2.1 (vI x) (by simp)
  have hF2 := hF.stk (st' := st') (fun v hv => hF.2.2.2.1 v (by simp [hv]))
  show W p l e (rmK k) s m args below meth c H locs (mC k - rc) (mS k - rs) Q (F0 m pc lsR (.int (oI y) :: .int (oI x) :: st'.map (trV ad)))
  cases cd with
  | eq =>
    refine lv_icmp_eq hX.2.1 hX.2.2.1 hd ht (fun z => ?_) (fun z => ?_)
    · have e : cmpI .eq x y = true := decide_eq_true ((oI_eq hx hy).mp z)
      rw [if_pos e] at kk; exact kk.go hWo hS hF2 hrc hrs
    · have e : cmpI .eq x y = false := decide_eq_false (fun q => z ((oI_eq hx hy).mpr q))
      rw [e] at kk; exact kk.go hWo hS hF2 hrc hrs
  | ne =>
    refine lv_icmp_ne hX.2.1 hX.2.2.1 hd ht (fun z => ?_) (fun z => ?_)
    · have e : cmpI .ne x y = true := decide_eq_true (fun q => z ((oI_eq hx hy).mpr q))
      rw [if_pos e] at kk; exact kk.go hWo hS hF2 hrc hrs
    · have e : cmpI .ne x y = false := decide_eq_false (fun q => q ((oI_eq hx hy).mp z))
      rw [e] at kk; exact kk.go hWo hS hF2 hrc hrs
  | lt =>
    refine lv_icmp_lt hX.2.1 hX.2.2.1 hd ht (fun z => ?_) (fun z => ?_)
    · have e : cmpI .lt x y = true := decide_eq_true ((oI_lt hx hy).mp z)
      rw [if_pos e] at kk; exact kk.go hWo hS hF2 hrc hrs
    · have e : cmpI .lt x y = false := decide_eq_false (fun q => z ((oI_lt hx hy).mpr q))
      rw [e] at kk; exact kk.go hWo hS hF2 hrc hrs
  | ge =>
    refine lv_icmp_ge hX.2.1 hX.2.2.1 hd ht (fun z => ?_) (fun z => ?_)
    · have e : cmpI .ge x y = true := decide_eq_true ((oI_le hy hx).mp z)
      rw [if_pos e] at kk; exact kk.go hWo hS hF2 hrc hrs
    · have e : cmpI .ge x y = false := decide_eq_false (fun q => z ((oI_le hy hx).mpr q))
      rw [e] at kk; exact kk.go hWo hS hF2 hrc hrs
  | gt =>
    refine lv_icmp_gt hX.2.1 hX.2.2.1 hd ht (fun z => ?_) (fun z => ?_)
    · have e : cmpI .gt x y = true := decide_eq_true ((oI_lt hy hx).mp z)
      rw [if_pos e] at kk; exact kk.go hWo hS hF2 hrc hrs
    · have e : cmpI .gt x y = false := decide_eq_false (fun q => z ((oI_lt hy hx).mpr q))
      rw [e] at kk; exact kk.go hWo hS hF2 hrc hrs
  | le =>
    refine lv_icmp_le hX.2.1 hX.2.2.1 hd ht (fun z => ?_) (fun z => ?_)
    · have e : cmpI .le x y = true := decide_eq_true ((oI_le hx hy).mp z)
      rw [if_pos e] at kk; exact kk.go hWo hS hF2 hrc hrs
    · have e : cmpI .le x y = false := decide_eq_false (fun q => z ((oI_le hx hy).mpr q))
      rw [e] at kk; exact kk.go hWo hS hF2 hrc hrs
theorem sn_if {cd : ClassFile.Cond} {off : Int} {tgt : Nat} {x : Int} {st' : List PV} (h : Hyp p s m args meth c H locs k D S μ ad cA tys A ls (vI x :: st') lsR rc rs) (hd : decode (mB k) pc = .ok (.ifCond cd off, 3)) (ht : (pc : Int) + off = (tgt : Int)) (kk : Cn p l e s m args below meth c Q k D A S.length ad cA (if cmpI cd x 0 then tgt else pc + 3) ls st' (S, μ, rc, rs)) : W p l e (rmK k) s m args below meth c H locs (mC k - rc) (mS k - rs) Q (F0 m pc lsR ((vI x :: st').map (trV ad))) := by
  obtain ⟨hX, hWo, hS, hA, hF, hrc, hrs⟩ := h
  have h0 : iR 0 := by decide
  have hx : iR x := hF.2.2.2.1 (vI x) (by simp)
  have hF2 := hF.stk (st' := st') (fun v hv => hF.2.2.2.1 v (by simp [hv]))
  show W p l e (rmK k) s m args below meth c H locs (mC k - rc) (mS k - rs) Q (F0 m pc lsR (.int (oI x) :: st'.map (trV ad)))
  cases cd with
  | eq =>
    refine lv_if_eq hX.2.1 hX.2.2.1 hd ht (fun z => ?_) (fun z => ?_)
    · have e : cmpI .eq x 0 = true := decide_eq_true ((oI_eq hx h0).mp (by rw [oI_0]; exact z))
      rw [if_pos e] at kk; exact kk.go hWo hS hF2 hrc hrs
    · have e : cmpI .eq x 0 = false := decide_eq_false (fun q => z (by rw [← oI_0]; exact (oI_eq hx h0).mpr q))
      rw [e] at kk; exact kk.go hWo hS hF2 hrc hrs
  | ne =>
    refine lv_if_ne hX.2.1 hX.2.2.1 hd ht (fun z => ?_) (fun z => ?_)
    · have e : cmpI .ne x 0 = true := decide_eq_true (fun q => z (by rw [← oI_0]; exact (oI_eq hx h0).mpr q))
      rw [if_pos e] at kk; exact kk.go hWo hS hF2 hrc hrs
    · have e : cmpI .ne x 0 = false := decide_eq_false (fun q => q ((oI_eq hx h0).mp (by rw [oI_0]; exact z)))
      rw [e] at kk; exact kk.go hWo hS hF2 hrc hrs
  | lt =>
    refine lv_if_lt hX.2.1 hX.2.2.1 hd ht (fun z => ?_) (fun z => ?_)
    · have e : cmpI .lt x 0 = true := decide_eq_true ((oI_lt hx h0).mp (by rw [oI_0]; exact z))
      rw [if_pos e] at kk; exact kk.go hWo hS hF2 hrc hrs
    · have e : cmpI .lt x 0 = false := decide_eq_false (fun q => z (by rw [← oI_0]; exact (oI_lt hx h0).mpr q))
      rw [e] at kk; exact kk.go hWo hS hF2 hrc hrs
  | ge =>
    refine lv_if_ge hX.2.1 hX.2.2.1 hd ht (fun z => ?_) (fun z => ?_)
    · have e : cmpI .ge x 0 = true := decide_eq_true ((oI_le h0 hx).mp (by rw [oI_0]; exact z))
      rw [if_pos e] at kk; exact kk.go hWo hS hF2 hrc hrs
    · have e : cmpI .ge x 0 = false := decide_eq_false (fun q => z (by rw [← oI_0]; exact (oI_le h0 hx).mpr q))
      rw [e] at kk; exact kk.go hWo hS hF2 hrc hrs
  | gt =>
    refine lv_if_gt hX.2.1 hX.2.2.1 hd ht (fun z => ?_) (fun z => ?_)
    · have e : cmpI .gt x 0 = true := decide_eq_true ((oI_lt h0 hx).mp (by rw [oI_0]; exact z))
      rw [if_pos e] at kk; exact kk.go hWo hS hF2 hrc hrs
    · have e : cmpI .gt x 0 = false := decide_eq_false (fun q => z (by rw [← oI_0]; exact (oI_lt h0 hx).mpr q))
      rw [e] at kk; exact kk.go hWo hS hF2 hrc hrs
  | le =>
    refine lv_if_le hX.2.1 hX.2.2.1 hd ht (fun z => ?_) (fun z => ?_)
    · have e : cmpI .le x 0 = true := decide_eq_true ((oI_le hx h0).mp (by rw [oI_0]; exact z))
      rw [if_pos e] at kk; exact kk.go hWo hS hF2 hrc hrs
    · have e : cmpI .le x 0 = false := decide_eq_false (fun q => z (by rw [← oI_0]; exact (oI_le hx h0).mpr q))
      rw [e] at kk; exact kk.go hWo hS hF2 hrc hrs
theorem sn_switch {dflt lo hi : Int} {offs : Array Int} {len : Nat} {tg : List Nat} {x : Int} {st' : List PV} (h : Hyp p s m args meth c H locs k D S μ ad cA tys A ls (vI x :: st') lsR rc rs) (hd : decode (mB k) pc = .ok (.tableswitch dflt lo hi offs, len)) (h1 : (pc : Int) + dflt = (tg.getD 0 0 : Nat)) (h2 : 0 ≤ lo ∧ lo ≤ hi ∧ hi < 100) (h3 : offs.size = (hi - lo).toNat + 1) (h4 : ∀ j, j < (hi - lo).toNat + 1 → (pc : Int) + offs.getD j 0 = (tg.getD (1 + j) 0 : Nat)) (kk : Cn p l e s m args below meth c Q k D A S.length ad cA (if x < lo ∨ hi < x then tg.getD 0 0 else tg.getD (1 + (x - lo).toNat) 0) ls st' (S, μ, rc, rs)) : W p l e (rmK k) s m args below meth c H locs (mC k - rc) (mS k - rs) Q (F0 m pc lsR ((vI x :: st').map (trV ad))) := by
  obtain ⟨hX, hWo, hS, hA, hF, hrc, hrs⟩ := h
  have hx : iR x := hF.2.2.2.1 (vI x) (by simp)
  have hF2 := hF.stk (st' := st') (fun v hv => hF.2.2.2.1 v (by simp [hv]))
  show W p l e (rmK k) s m args below meth c H locs (mC k - rc) (mS k - rs) Q (F0 m pc lsR (.int (oI x) :: st'.map (trV ad)))
  by_cases hq : x < lo ∨ hi < x
  · rw [if_pos hq] at kk
    refine lv_tableOut hX.2.1 hX.2.2.1 hd (by rw [oI_to hx]; exact hq) h1 ?_
    exact kk.go hWo hS hF2 hrc hrs
  · rw [if_neg hq] at kk
    have hj : (x - lo).toNat < offs.size := by omega
    refine lv_tableIn hX.2.1 hX.2.2.1 hd (by rw [oI_to hx]; omega) (by rw [oI_to hx]; omega) (off := offs.getD (x - lo).toNat 0) (by rw [oI_to hx]; simp [Array.getD, hj]) (h4 _ (by omega)) ?_
    exact kk.go hWo hS hF2 hrc hrs
end SND
end
section
/-! steps that reach the heap -/
theorem cls_at {ci : Nat} (h : ci < 13) : cls[ci]? = some (nmC ci, clT ci, clN ci) := by
  have h2 : ci < cls.length := h
  unfold nmC clT clN
  rw [List.getD_eq_getElem?_getD, List.getElem?_eq_getElem h2]
  rfl
theorem cls_in {ci : Nat} (h : ci < 13) : ∀ w ∈ u_ws (nmC ci) (clT ci) (clN ci), w ∈ TW := by
  intro w hw
  obtain ⟨f, hf, rfl⟩ := List.mem_map.mp hw
  have h1 := List.all_eq_true.mp cw_ok ci (List.mem_range.mpr h)
  unfold cwc at h1
  rw [Bool.and_eq_true] at h1
  refine tw_mem (lwAt_mem (List.all_eq_true.mp h1.2 f hf)) ?_
  unfold u_lay
  split <;> rfl
theorem ty_all : ∀ ci, ci < 13 → ∀ f, f < clN ci → parseFieldDescriptor (clT ci f).2.2.1 = some (tyC ci f) := by decide +kernel
theorem nm_all : ∀ ci, ci < 13 → ∀ a, a < clN ci → ∀ b, b < clN ci → a ≠ b → (clT ci a).2.1 ≠ (clT ci b).2.1 := by decide +kernel
theorem bl_all : ∀ ci, ci < 13 → (bl ci).length = clN ci ∧ ∀ i, i < clN ci → ((bl ci)[i]? = some none ∧ tyC ci i = .int) ∨ ((bl ci)[i]? = some (some none) ∧ rfT (tyC ci i) = true ∧ defaultValue (tyC ci i) = .null) := by decide +kernel
theorem ini_all {ci : Nat} (h : ci < 13) : Cond.initialized (nmC ci) ∈ lw_tbl := by
  have h1 := List.all_eq_true.mp cw_ok ci (List.mem_range.mpr h)
  unfold cwc at h1
  rw [Bool.and_eq_true] at h1
  exact lwAt_mem h1.1
theorem rfT_fit {t : FieldType} (h : rfT t = true) (a : Nat) : narrow t (.ref a) = .ref a ∧ fits t (.ref a) = true := by
  cases t <;> first | exact ⟨rfl, rfl⟩ | cases h
section SNM
variable {p : Program} {l : Launch} {e : Env} {s : State} {m : MethodId} {args : Array Value} {below : List Frame} {meth : Method} {c : Code} {H : Heap} {locs : List Loc} {Q : State → Prop} {k pc : Nat} {D : va_G} {S : List Shp} {μ : Mu} {ad : Nat → Nat} {cA : Nat → ClassId} {tys : List (ClassId × FieldType)} {A : Nat → Prop} {ls : Lo} {st : List PV} {lsR : Array Slot} {rc rs : Nat}
theorem sn_get {i q ci f : Nat} {fs : List (Option (Option Nat))} {v : PV} {st' : List PV} (h : Hyp p s m args meth c H locs k D S μ ad cA tys A ls (vR q :: st') lsR rc rs) (hd : decode (mB k) pc = .ok (.getfield i, 3)) (hlk : Cond.fieldLink (nmC (mI k)) i (clT ci f).1 (clT ci f).2.1 (clT ci f).2.2.1 ∈ lw_tbl) (hf : f < clN ci) (hq : S[q]? = some (.inr (ci, fs))) (hv : (fs[f]? = some none ∧ v = vI (μ q f)) ∨ ∃ z, fs[f]? = some (some (some z)) ∧ v = vR z) (kk : Cn p l e s m args below meth c Q k D A S.length ad cA (pc + 3) ls (v :: st') (S, μ, rc, rs)) : W p l e (rmK k) s m args below meth c H locs (mC k - rc) (mS k - rs) Q (F0 m pc lsR ((vR q :: st').map (trV ad))) := by
  obtain ⟨hX, hWo, hS, hA, hF, hrc, hrs⟩ := h
  have hsh := hWo.2.2.2.2.2 q _ hq
  have hok : okV S.length v := by
    rcases hv with ⟨-, rfl⟩ | ⟨z, h1, rfl⟩
    · exact hWo.2.2.2.2.1 q f
    · exact (hsh.2.2 f _ h1).2
  have hval : (fs.mapIdx (fun i o => fV ad μ q i o))[f]? = some (trV ad v) := by
    rw [List.getElem?_mapIdx]
    rcases hv with ⟨h1, rfl⟩ | ⟨z, h1, rfl⟩
    · rw [h1]; rfl
    · rw [h1]; rfl
  show W p l e (rmK k) s m args below meth c H locs (mC k - rc) (mS k - rs) Q (F0 m pc lsR (.ref (ad q) :: st'.map (trV ad)))
  refine va_get (C := nmC ci) (T := clT ci) (N := clN ci) (ci := ci) hX.2.1 hX.2.2.1 hX.2.2.2.2.2.2.1 (fun w hw => tw_in k _ (cls_in hsh.1 w hw)) hX.2.2.2.2.2.1 hWo.1 hWo.2.1 q (mkW_at hq) (cls_at hsh.1) f hf (hX.w hlk rfl) (fun _ h9 => h9) hval hd ?_
  exact kk.go hWo hS (hF.stk (fun w hw => by
    rcases List.mem_cons.mp hw with rfl | hw
    · exact hok
    · exact hF.2.2.2.1 w (by simp [hw]))) hrc hrs
theorem sn_putI {i q ci f : Nat} {fs : List (Option (Option Nat))} {x : Int} {st' : List PV} (h : Hyp p s m args meth c H locs k D S μ ad cA tys A ls (vI x :: vR q :: st') lsR rc rs) (hd : decode (mB k) pc = .ok (.putfield i, 3)) (hlk : Cond.fieldLink (nmC (mI k)) i (clT ci f).1 (clT ci f).2.1 (clT ci f).2.2.1 ∈ lw_tbl) (hf : f < clN ci) (hfin : (clT ci f).2.2.2 = false ∨ (mZ k = 1 ∧ (clT ci f).1 = nmC (mI k))) (hq : S[q]? = some (.inr (ci, fs))) (hv : fs[f]? = some none) (kk : Cn p l e s m args below meth c Q k D A S.length ad cA (pc + 3) ls st' (S, u2 μ q f x, rc, rs)) : W p l e (rmK k) s m args below meth c H locs (mC k - rc) (mS k - rs) Q (F0 m pc lsR ((vI x :: vR q :: st').map (trV ad))) := by
  obtain ⟨hX, hWo, hS, hA, hF, hrc, hrs⟩ := h
  have hx : iR x := hF.2.2.2.1 (vI x) (by simp)
  have hsh := hWo.2.2.2.2.2 q _ hq
  have hty : tyC ci f = .int := hsh.2.2 f none hv
  have hpf : parseFieldDescriptor (clT ci f).2.2.1 = some .int := by rw [ty_all ci hsh.1 f hf, hty]
  have hfl : f < (fs.mapIdx (fun i o => fV ad μ q i o)).length := by rw [List.length_mapIdx]; exact (List.getElem?_eq_some_iff.mp hv).1
  have fin : ∀ (H1 : Heap) (locs1 : List Loc), va_P D cls ((mkW S μ ad cA).set q (ad q, .inr (ci, (fs.mapIdx (fun i o => fV ad μ q i o)).set f (.int (oI x))))) H1 → va_D A ((mkW S μ ad cA).set q (ad q, .inr (ci, (fs.mapIdx (fun i o => fV ad μ q i o)).set f (.int (oI x))))) → va_S A s.heap H1 locs1 → W p l e (rmK k) s m args below meth c H1 locs1 (mC k - rc) (mS k - rs) Q (F0 m (pc + 3) lsR (st'.map (trV ad))) := by
    intro H1 locs1 hP hD hS1
    rw [mkW_fld hq hv] at hP hD
    exact kk.go ⟨hWo.1, hP, hD, hWo.2.2.2.1, hWo.2.2.2.2.1.up hx, hWo.2.2.2.2.2⟩ hS1 (hF.stk (fun v hv => hF.2.2.2.1 v (by simp [hv]))) hrc hrs
  show W p l e (rmK k) s m args below meth c H locs (mC k - rc) (mS k - rs) Q (F0 m pc lsR (.int (oI x) :: .ref (ad q) :: st'.map (trV ad)))
  by_cases hfn : (clT ci f).2.2.2 = false
  · exact va_put (C := nmC ci) (T := clT ci) (N := clN ci) (ci := ci) (ty := .int) hX.2.1 hX.2.2.1 hX.2.2.2.2.2.2.1 (fun w hw => tw_in k _ (cls_in hsh.1 w hw)) (tyC ci) (ty_all ci hsh.1) (nm_all ci hsh.1) hX.2.2.2.2.2.1 hWo.1 hWo.2.1 hWo.2.2.1 hS q (mkW_at hq) (cls_at hsh.1) f hf (hX.w hlk rfl) (fun _ h9 => h9) hfn hpf rfl rfl hfl hd fin
  · rcases hfin with h9 | ⟨h9, h8⟩
    · exact absurd h9 hfn
    · exact va_putF (C := nmC ci) (T := clT ci) (N := clN ci) (ci := ci) (ty := .int) hX.2.1 hX.2.2.1 hX.2.2.2.2.2.2.1 (fun w hw => tw_in k _ (cls_in hsh.1 w hw)) (tyC ci) (ty_all ci hsh.1) (nm_all ci hsh.1) hX.2.2.2.2.2.1 hWo.1 hWo.2.1 hWo.2.2.1 hS q (mkW_at hq) (cls_at hsh.1) f hf (hX.w hlk rfl) (fun _ h9 => h9) (by cases hz : (clT ci f).2.2.2 <;> first | exact absurd hz hfn | rfl) (hX.2.2.2.2.2.2.2.2.1 h9) h8 hpf rfl rfl hfl hd fin
theorem sn_putR {i q ci f z : Nat} {fs : List (Option (Option Nat))} {o : Option Nat} {st' : List PV} (h : Hyp p s m args meth c H locs k D S μ ad cA tys A ls (vR z :: vR q :: st') lsR rc rs) (hd : decode (mB k) pc = .ok (.putfield i, 3)) (hlk : Cond.fieldLink (nmC (mI k)) i (clT ci f).1 (clT ci f).2.1 (clT ci f).2.2.1 ∈ lw_tbl) (hf : f < clN ci) (hfin : (clT ci f).2.2.2 = false ∨ (mZ k = 1 ∧ (clT ci f).1 = nmC (mI k))) (hq : S[q]? = some (.inr (ci, fs))) (hv : fs[f]? = some (some o)) (kk : Cn p l e s m args below meth c Q k D A S.length ad cA (pc + 3) ls st' (S.set q (.inr (ci, fs.set f (some (some z)))), μ, rc, rs)) : W p l e (rmK k) s m args below meth c H locs (mC k - rc) (mS k - rs) Q (F0 m pc lsR ((vR z :: vR q :: st').map (trV ad))) := by
  obtain ⟨hX, hWo, hS, hA, hF, hrc, hrs⟩ := h
  have hz : z < S.length := hF.2.2.2.1 (vR z) (by simp)
  have hsh := hWo.2.2.2.2.2 q _ hq
  have hql : q < S.length := (List.getElem?_eq_some_iff.mp hq).1
  have hty : rfT (tyC ci f) = true := by
    have := hsh.2.2 f _ hv
    rcases o with _ | o
    · exact this
    · exact this.1
  have hpf : parseFieldDescriptor (clT ci f).2.2.1 = some (tyC ci f) := ty_all ci hsh.1 f hf
  have hfl0 : f < fs.length := (List.getElem?_eq_some_iff.mp hv).1
  have hfl : f < (fs.mapIdx (fun i o => fV ad μ q i o)).length := by rw [List.length_mapIdx]; exact hfl0
  have hTy : TyOK (S.set q (.inr (ci, fs.set f (some (some z))))) cA tys := by
    intro p2 b n h2
    by_cases hp : p2 = q
    · subst hp
      rw [List.getElem?_set_self hql] at h2
      cases h2
    · rw [List.getElem?_set_ne (Ne.symm hp)] at h2
      exact hWo.2.2.2.1 p2 b n h2
  have hSh : ShOK (S.set q (.inr (ci, fs.set f (some (some z))))) := by
    intro p2 sh h2
    rw [List.length_set]
    by_cases hp : p2 = q
    · subst hp
      rw [List.getElem?_set_self hql] at h2
      cases h2
      refine ⟨hsh.1, by rw [List.length_set]; exact hsh.2.1, fun j o2 hj => ?_⟩
      by_cases hjf : j = f
      · subst hjf
        rw [List.getElem?_set_self hfl0] at hj
        cases hj
        exact ⟨hty, hz⟩
      · rw [List.getElem?_set_ne (Ne.symm hjf)] at hj
        exact hsh.2.2 j o2 hj
    · rw [List.getElem?_set_ne (Ne.symm hp)] at h2
      exact hWo.2.2.2.2.2 p2 sh h2
  have hlen : (S.set q (.inr (ci, fs.set f (some (some z))))).length = S.length := List.length_set ..
  have fin : ∀ (H1 : Heap) (locs1 : List Loc), va_P D cls ((mkW S μ ad cA).set q (ad q, .inr (ci, (fs.mapIdx (fun i o => fV ad μ q i o)).set f (.ref (ad z))))) H1 → va_D A ((mkW S μ ad cA).set q (ad q, .inr (ci, (fs.mapIdx (fun i o => fV ad μ q i o)).set f (.ref (ad z))))) → va_S A s.heap H1 locs1 → W p l e (rmK k) s m args below meth c H1 locs1 (mC k - rc) (mS k - rs) Q (F0 m (pc + 3) lsR (st'.map (trV ad))) := by
    intro H1 locs1 hP hD hS1
    rw [mkW_ref hq] at hP hD
    exact kk ad cA tys H1 locs1 lsR (fun _ _ => ⟨rfl, rfl⟩) (by rw [hlen]; exact Nat.le_refl _) ⟨hWo.1, hP, hD, hTy, hWo.2.2.2.2.1, hSh⟩ hS1 (by rw [hlen]; exact hF.stk (fun v hv => hF.2.2.2.1 v (by simp [hv]))) hrc hrs
  show W p l e (rmK k) s m args below meth c H locs (mC k - rc) (mS k - rs) Q (F0 m pc lsR (.ref (ad z) :: .ref (ad q) :: st'.map (trV ad)))
  by_cases hfn : (clT ci f).2.2.2 = false
  · exact va_put (C := nmC ci) (T := clT ci) (N := clN ci) (ci := ci) (ty := tyC ci f) hX.2.1 hX.2.2.1 hX.2.2.2.2.2.2.1 (fun w hw => tw_in k _ (cls_in hsh.1 w hw)) (tyC ci) (ty_all ci hsh.1) (nm_all ci hsh.1) hX.2.2.2.2.2.1 hWo.1 hWo.2.1 hWo.2.2.1 hS q (mkW_at hq) (cls_at hsh.1) f hf (hX.w hlk rfl) (fun _ h9 => h9) hfn hpf (rfT_fit hty _).1 (rfT_fit hty _).2 hfl hd fin
  · rcases hfin with h9 | ⟨h9, h8⟩
    · exact absurd h9 hfn
    · exact va_putF (C := nmC ci) (T := clT ci) (N := clN ci) (ci := ci) (ty := tyC ci f) hX.2.1 hX.2.2.1 hX.2.2.2.2.2.2.1 (fun w hw => tw_in k _ (cls_in hsh.1 w hw)) (tyC ci) (ty_all ci hsh.1) (nm_all ci hsh.1) hX.2.2.2.2.2.1 hWo.1 hWo.2.1 hWo.2.2.1 hS q (mkW_at hq) (cls_at hsh.1) f hf (hX.w hlk rfl) (fun _ h9 => h9) (by cases hz : (clT ci f).2.2.2 <;> first | exact absurd hz hfn | rfl) (hX.2.2.2.2.2.2.2.2.1 h9) h8 hpf (rfT_fit hty _).1 (rfT_fit hty _).2 hfl hd fin
theorem sn_iald {q n : Nat} {i : Int} {st' : List PV} (h : Hyp p s m args meth c H locs k D S μ ad cA tys A ls (vI i :: vR q :: st') lsR rc rs) (hd : decode (mB k) pc = .ok (.iaload, 1)) (hq : S[q]? = some (.inl (false, n))) (hi : 0 ≤ i ∧ i < n) (kk : Cn p l e s m args below meth c Q k D A S.length ad cA (pc + 1) ls (vI (μ q i) :: st') (S, μ, rc, rs)) : W p l e (rmK k) s m args below meth c H locs (mC k - rc) (mS k - rs) Q (F0 m pc lsR ((vI i :: vR q :: st').map (trV ad))) := by
  obtain ⟨hX, hWo, hS, hA, hF, hrc, hrs⟩ := h
  have hx : iR i := hF.2.2.2.1 (vI i) (by simp)
  obtain ⟨t0, ht0⟩ := hWo.2.2.2.1 q false n hq
  show W p l e (rmK k) s m args below meth c H locs (mC k - rc) (mS k - rs) Q (F0 m pc lsR (.int (oI i) :: .ref (ad q) :: st'.map (trV ad)))
  refine va_iald hX.2.1 hX.2.2.1 hWo.1 hWo.2.1 q t0 (mkW_at hq) ht0 (oI_in hx hi) hd ?_
  refine kk.go hWo hS (hF.stk (fun w hw => by
    rcases List.mem_cons.mp hw with rfl | hw
    · exact hWo.2.2.2.2.1 q i
    · exact hF.2.2.2.1 w (by simp [hw]))) hrc hrs ?_
  show Value.int (oI (μ q i)) :: _ = Value.int (oI (μ q (((oI i).toNatClampNeg : Nat) : Int))) :: _
  rw [oI_cl hx, Int.toNat_of_nonneg hi.1]
theorem sn_bald {q n : Nat} {i : Int} {st' : List PV} (h : Hyp p s m args meth c H locs k D S μ ad cA tys A ls (vI i :: vR q :: st') lsR rc rs) (hd : decode (mB k) pc = .ok (.baload, 1)) (hq : S[q]? = some (.inl (true, n))) (hi : 0 ≤ i ∧ i < n) (kk : Cn p l e s m args below meth c Q k D A S.length ad cA (pc + 1) ls (vI (μ q i) :: st') (S, μ, rc, rs)) : W p l e (rmK k) s m args below meth c H locs (mC k - rc) (mS k - rs) Q (F0 m pc lsR ((vI i :: vR q :: st').map (trV ad))) := by
  obtain ⟨hX, hWo, hS, hA, hF, hrc, hrs⟩ := h
  have hx : iR i := hF.2.2.2.1 (vI i) (by simp)
  obtain ⟨t0, ht0⟩ := hWo.2.2.2.1 q true n hq
  show W p l e (rmK k) s m args below meth c H locs (mC k - rc) (mS k - rs) Q (F0 m pc lsR (.int (oI i) :: .ref (ad q) :: st'.map (trV ad)))
  refine va_zald hX.2.1 hX.2.2.1 hWo.1 hWo.2.1 q t0 (mkW_at hq) ht0 (oI_in hx hi) hd ?_
  refine kk.go hWo hS (hF.stk (fun w hw => by
    rcases List.mem_cons.mp hw with rfl | hw
    · exact hWo.2.2.2.2.1 q i
    · exact hF.2.2.2.1 w (by simp [hw]))) hrc hrs ?_
  show Value.int (oI (μ q i)) :: _ = Value.int (oI (μ q (((oI i).toNatClampNeg : Nat) : Int))) :: _
  rw [oI_cl hx, Int.toNat_of_nonneg hi.1]
theorem sn_iast {q n : Nat} {i x : Int} {st' : List PV} (h : Hyp p s m args meth c H locs k D S μ ad cA tys A ls (vI x :: vI i :: vR q :: st') lsR rc rs) (hd : decode (mB k) pc = .ok (.iastore, 1)) (hq : S[q]? = some (.inl (false, n))) (hi : 0 ≤ i ∧ i < n) (kk : Cn p l e s m args below meth c Q k D A S.length ad cA (pc + 1) ls st' (S, u2 μ q i x, rc, rs)) : W p l e (rmK k) s m args below meth c H locs (mC k - rc) (mS k - rs) Q (F0 m pc lsR ((vI x :: vI i :: vR q :: st').map (trV ad))) := by
  obtain ⟨hX, hWo, hS, hA, hF, hrc, hrs⟩ := h
  have hi0 : iR i := hF.2.2.2.1 (vI i) (by simp)
  have hx : iR x := hF.2.2.2.1 (vI x) (by simp)
  obtain ⟨t0, ht0⟩ := hWo.2.2.2.1 q false n hq
  show W p l e (rmK k) s m args below meth c H locs (mC k - rc) (mS k - rs) Q (F0 m pc lsR (.int (oI x) :: .int (oI i) :: .ref (ad q) :: st'.map (trV ad)))
  refine va_iast hX.2.1 hX.2.2.1 hWo.1 hWo.2.1 hWo.2.2.1 hS q t0 (mkW_at hq) ht0 (oI_in hi0 hi) hd (fun H1 locs1 hP hD hS1 => ?_)
  rw [oI_cl hi0, mkW_arr hq hi.1 rfl] at hP hD
  exact kk.go ⟨hWo.1, hP, hD, hWo.2.2.2.1, hWo.2.2.2.2.1.up hx, hWo.2.2.2.2.2⟩ hS1 (hF.stk (fun v hv => hF.2.2.2.1 v (by simp [hv]))) hrc hrs
theorem sn_bast {q n : Nat} {i x : Int} {st' : List PV} (h : Hyp p s m args meth c H locs k D S μ ad cA tys A ls (vI x :: vI i :: vR q :: st') lsR rc rs) (hd : decode (mB k) pc = .ok (.bastore, 1)) (hq : S[q]? = some (.inl (true, n))) (hi : (0 ≤ i ∧ i < n) ∧ (x = 0 ∨ x = 1)) (kk : Cn p l e s m args below meth c Q k D A S.length ad cA (pc + 1) ls st' (S, u2 μ q i x, rc, rs)) : W p l e (rmK k) s m args below meth c H locs (mC k - rc) (mS k - rs) Q (F0 m pc lsR ((vI x :: vI i :: vR q :: st').map (trV ad))) := by
  obtain ⟨hX, hWo, hS, hA, hF, hrc, hrs⟩ := h
  have hi0 : iR i := hF.2.2.2.1 (vI i) (by simp)
  have hx : iR x := hF.2.2.2.1 (vI x) (by simp)
  obtain ⟨t0, ht0⟩ := hWo.2.2.2.1 q true n hq
  show W p l e (rmK k) s m args below meth c H locs (mC k - rc) (mS k - rs) Q (F0 m pc lsR (.int (oI x) :: .int (oI i) :: .ref (ad q) :: st'.map (trV ad)))
  refine va_zast hX.2.1 hX.2.2.1 hWo.1 hWo.2.1 hWo.2.2.1 hS q t0 (mkW_at hq) ht0 (oI_in hi0 hi.1) hd (fun H1 locs1 hP hD hS1 => ?_)
  have hb : vp_nar .boolean (oI x) = oI x := oI_bit hi.2
  rw [oI_cl hi0, mkW_arr hq hi.1.1 hb] at hP hD
  exact kk.go ⟨hWo.1, hP, hD, hWo.2.2.2.1, hWo.2.2.2.2.1.up hx, hWo.2.2.2.2.2⟩ hS1 (hF.stk (fun v hv => hF.2.2.2.1 v (by simp [hv]))) hrc hrs
end SNM
end
section
/-! steps that make cells, and the library's methods -/
theorem jw_all : Cond.static Lib.Math.max.name ∈ lw_tbl ∧ Cond.initialized "java/lang/Math" ∈ lw_tbl ∧ Cond.code Lib.Math.max.name Lib.Math.max.code 2 (some .int) ∈ lw_tbl ∧ Cond.native arraycopyName ∈ lw_tbl ∧ Cond.static arraycopyName ∈ lw_tbl ∧ Cond.initialized "java/lang/System" ∈ lw_tbl ∧ Cond.instanceMethod Lib.objectInit ∈ lw_tbl ∧ Cond.code Lib.objectInit ⟨#[0xb1]⟩ 1 none ∈ lw_tbl ∧ Cond.arrayClass .int ∈ lw_tbl ∧ Cond.arrayClass .boolean ∈ lw_tbl := by
  have h := jw_ok
  simp only [Bool.and_eq_true] at h
  obtain ⟨⟨⟨⟨⟨⟨⟨⟨⟨h0, h1⟩, h2⟩, h3⟩, h4⟩, h5⟩, h6⟩, h7⟩, h8⟩, h9⟩ := h
  exact ⟨lwAt_mem h0, lwAt_mem h1, lwAt_mem h2, lwAt_mem h3, lwAt_mem h4, lwAt_mem h5, lwAt_mem h6, lwAt_mem h7, lwAt_mem h8, lwAt_mem h9⟩
theorem cat_sum {ad : Nat → Nat} : ∀ (st : List PV) (n : Nat), st.length ≤ n → ((st.map (trV ad)).map fun v => v.category).sum ≤ 2 * n := by
  intro st
  induction st with
  | nil => intro n _; simp
  | cons v st ih =>
    intro n hn
    cases n with
    | zero => simp at hn
    | succ n =>
      have h1 := ih n (by simpa using hn)
      have h2 : (trV ad v).category ≤ 2 := by rw [trV_cat]; split <;> decide
      simp only [List.map_cons, List.sum_cons]
      omega
section SNN
variable {p : Program} {l : Launch} {e : Env} {s : State} {m : MethodId} {args : Array Value} {below : List Frame} {meth : Method} {c : Code} {H : Heap} {locs : List Loc} {Q : State → Prop} {k pc : Nat} {D : va_G} {S : List Shp} {μ : Mu} {ad : Nat → Nat} {cA : Nat → ClassId} {tys : List (ClassId × FieldType)} {A : Nat → Prop} {ls : Lo} {st : List PV} {lsR : Array Slot} {rc rs : Nat}
theorem ShOK.push {sh : Shp} (h : ShOK S) (h1 : shOK (S.length + 1) sh) : ShOK (S ++ [sh]) := by
  have mono : ∀ sh2, shOK S.length sh2 → shOK (S.length + 1) sh2 := by
    intro sh2 hs
    rcases sh2 with x | x
    · trivial
    · refine ⟨hs.1, hs.2.1, fun i o ho => ?_⟩
      have := hs.2.2 i o ho
      rcases o with _ | _ | o
      · exact this
      · exact this
      · exact ⟨this.1, Nat.lt_succ_of_lt this.2⟩
  intro q x hq
  rw [List.length_append]
  show shOK (S.length + 1) x
  by_cases hl : q < S.length
  · rw [List.getElem?_append_left hl] at hq
    exact mono x (h q x hq)
  · have h2 := (List.getElem?_eq_some_iff.mp hq).1
    have hq2 : q = S.length := by simp at h2; omega
    subst hq2
    have e2 : (S ++ [sh])[S.length]? = some sh := by simp
    rw [e2] at hq
    cases hq
    exact h1
theorem sn_newa {t : ArrayType} {b : Bool} {n : Int} {st' : List PV} (h : Hyp p s m args meth c H locs k D S μ ad cA tys A ls (vI n :: st') lsR rc rs) (hd : decode (mB k) pc = .ok (.newarray t, 2)) (ht : (t = .int ∧ b = false) ∨ (t = .boolean ∧ b = true)) (hn : 0 ≤ n ∧ n ≤ 2147483647 ∧ n.toNat * 4 ≤ 536870912 ∧ 1 ≤ rc ∧ n.toNat ≤ rs) (kk : Cn p l e s m args below meth c Q k D A S.length ad cA (pc + 2) ls (vR S.length :: st') (S ++ [.inl (b, n.toNat)], u0 μ S.length, rc - 1, rs - n.toNat)) : W p l e (rmK k) s m args below meth c H locs (mC k - rc) (mS k - rs) Q (F0 m pc lsR ((vI n :: st').map (trV ad))) := by
  obtain ⟨hX, hWo, hS, hA, hF, hrc, hrs⟩ := h
  have hx : iR n := hF.2.2.2.1 (vI n) (by simp)
  have hn0 : ¬ oI n < 0 := by
    rw [← oI_0, oI_lt hx (by decide)]; omega
  have fin : ∀ (q : Nat) (cA0 : ClassId) (H1 : Heap), va_K D cls (tys ++ [(cA0, bty b)]) s → va_P D cls (mkW S μ ad cA ++ [(q, .inl (cA0, (n.toNat, .inl (fun _ => oI 0))))]) H1 → va_D A (mkW S μ ad cA ++ [(q, .inl (cA0, (n.toNat, .inl (fun _ => oI 0))))]) → va_S A s.heap H1 locs → W p l e (rmK k) s m args below meth c H1 locs (mC k - rc + 1) (mS k - rs + n.toNat) Q (F0 m (pc + 2) lsR (.ref q :: st'.map (trV ad))) := by
    intro q cA0 H1 hK hP hD hS1
    have he : (.inl (cA0, (n.toNat, .inl (fun _ => oI 0))) : va_E) = mkE (upA ad S.length q) (upA cA S.length cA0) (u0 μ S.length) S.length (.inl (b, n.toNat)) := by
      show (Sum.inl _ : va_E) = Sum.inl (upA cA S.length cA0 S.length, n.toNat, Sum.inl (fun j : Nat => oI (u0 μ S.length S.length (j : Int))))
      rw [upA_self]
      unfold u0
      rw [if_pos rfl]
    rw [mkW_push hWo.2.2.2.2.2 he] at hP hD
    have hag : ∀ x, x < S.length → upA ad S.length q x = ad x := fun x hx => upA_lt hx
    have hlen : (S ++ [.inl (b, n.toNat)] : List Shp).length = S.length + 1 := by simp
    have hTy : TyOK (S ++ [.inl (b, n.toNat)]) (upA cA S.length cA0) (tys ++ [(cA0, bty b)]) := by
      intro p2 b2 n2 h2
      by_cases hl : p2 < S.length
      · rw [List.getElem?_append_left hl] at h2
        obtain ⟨i, hi⟩ := hWo.2.2.2.1 p2 b2 n2 h2
        refine ⟨i, ?_⟩
        rw [List.getElem?_append_left (List.getElem?_eq_some_iff.mp hi).1, hi, upA_lt hl]
      · have h3 := (List.getElem?_eq_some_iff.mp h2).1
        have hq2 : p2 = S.length := by simp at h3; omega
        subst hq2
        have e2 : (S ++ [.inl (b, n.toNat)] : List Shp)[S.length]? = some (.inl (b, n.toNat)) := by simp
        rw [e2] at h2
        cases h2
        refine ⟨tys.length, ?_⟩
        rw [upA_self]
        simp
    have hst : (vR S.length :: st').map (trV (upA ad S.length q)) = .ref q :: st'.map (trV ad) := by
      show Value.ref (upA ad S.length q S.length) :: _ = _
      rw [upA_self, map_ag hag (fun v hv => hF.2.2.2.1 v (by simp [hv]))]
    have := kk (upA ad S.length q) (upA cA S.length cA0) (tys ++ [(cA0, bty b)]) H1 locs lsR (fun x hx => ⟨upA_lt hx, upA_lt hx⟩) (by show S.length ≤ (S ++ [.inl (b, n.toNat)] : List Shp).length; rw [hlen]; omega) ⟨hK, hP, hD, hTy, hWo.2.2.2.2.1.zo, hWo.2.2.2.2.2.push trivial⟩ hS1
      (by
        show Fs (upA ad S.length q) k (S ++ [.inl (b, n.toNat)] : List Shp).length ls (vR S.length :: st') lsR
        rw [hlen]
        refine hF.ag hag (by omega) (fun v hv => ?_)
        rcases List.mem_cons.mp hv with rfl | hv
        · exact Nat.lt_succ_self _
        · exact okV_mono (Nat.le_succ _) (hF.2.2.2.1 v (by simp [hv])))
      (by show rc - 1 ≤ mC k; omega) (by show rs - n.toNat ≤ mS k; omega)
    rw [hst] at this
    have e1 : mC k - rc + 1 = mC k - (rc - 1) := by omega
    have e2 : mS k - rs + n.toNat = mS k - (rs - n.toNat) := by omega
    rw [e1, e2]
    exact this
  show W p l e (rmK k) s m args below meth c H locs (mC k - rc) (mS k - rs) Q (F0 m pc lsR (.int (oI n) :: st'.map (trV ad)))
  have hcells : mC k - rc + 1 ≤ (rmK k).cells := by show mC k - rc + 1 ≤ mC k; omega
  have hslots : mS k - rs + n.toNat ≤ (rmK k).slots := by show mS k - rs + n.toNat ≤ mS k; omega
  rcases ht with ⟨rfl, rfl⟩ | ⟨rfl, rfl⟩
  · exact va_newa (atype := .int) (ty := .int) (a0 := (n.toNat, .inl (fun _ => oI 0))) (N' := n.toNat) hX.2.1 hX.2.2.1 (hX.w jw_all.2.2.2.2.2.2.2.2.1 rfl) rfl hWo.1 hWo.2.1 hWo.2.2.1 hS hA (fun cA => by rw [vp_cell_i, oI_0]; rfl) hn0 (oI_cl hx) hn.2.2.1 hcells hslots hd fin
  · exact va_newa (atype := .boolean) (ty := .boolean) (a0 := (n.toNat, .inl (fun _ => oI 0))) (N' := n.toNat) hX.2.1 hX.2.2.1 (hX.w jw_all.2.2.2.2.2.2.2.2.2 rfl) rfl hWo.1 hWo.2.1 hWo.2.2.1 hS hA (fun cA => by rw [vp_cell_i, oI_0]; rfl) hn0 (oI_cl hx) (by have e : componentBytes .boolean = 1 := rfl; rw [e]; omega) hcells hslots hd fin
theorem sn_new {i ci : Nat} (h : Hyp p s m args meth c H locs k D S μ ad cA tys A ls st lsR rc rs) (hd : decode (mB k) pc = .ok (.new i, 3)) (hcl : Cond.classLink (nmC (mI k)) i (nmC ci) ∈ lw_tbl) (hin : Cond.instantiable (nmC ci) (clN ci) ∈ lw_tbl) (hci : ci < 13) (hn : 1 ≤ rc ∧ (bl ci).length ≤ rs) (kk : Cn p l e s m args below meth c Q k D A S.length ad cA (pc + 3) ls (vR S.length :: st) (S ++ [.inr (ci, bl ci)], u0 μ S.length, rc - 1, rs - (bl ci).length)) : W p l e (rmK k) s m args below meth c H locs (mC k - rc) (mS k - rs) Q (F0 m pc lsR (st.map (trV ad))) := by
  obtain ⟨hX, hWo, hS, hA, hF, hrc, hrs⟩ := h
  obtain ⟨hbl, hbf⟩ := bl_all ci hci
  have hfs : ∀ j, j < clN ci → defaultValue (tyC ci j) = vp_V ((bl ci).mapIdx (fun i o => fV ad (u0 μ S.length) S.length i o)) j := by
    intro j hj
    unfold vp_V
    rw [List.getD_eq_getElem?_getD, List.getElem?_mapIdx]
    rcases hbf j hj with ⟨h1, h2⟩ | ⟨h1, h2, h3⟩
    · rw [h1, h2]
      show Value.int 0 = Value.int (oI (u0 μ S.length S.length (j : Int)))
      unfold u0
      rw [if_pos rfl, oI_0]
    · rw [h1, h3]; rfl
  have hsh : shOK (S.length + 1) (.inr (ci, bl ci)) := by
    refine ⟨hci, hbl, fun j o ho => ?_⟩
    have hj : j < clN ci := by rw [← hbl]; exact (List.getElem?_eq_some_iff.mp ho).1
    rcases hbf j hj with ⟨h1, h2⟩ | ⟨h1, h2, h3⟩
    · rw [h1] at ho; cases ho; exact h2
    · rw [h1] at ho; cases ho; exact h2
  refine va_new (C := nmC ci) (T := clT ci) (N := clN ci) (ci := ci) hX.2.1 hX.2.2.1 hX.2.2.2.2.2.2.1 (fun w hw => tw_in k _ (cls_in hci w hw)) (tyC ci) (ty_all ci hci) hX.2.2.2.2.2.1 (hX.w hcl rfl) (hX.w hin rfl) (hX.w (ini_all hci) rfl) hWo.1 hWo.2.1 hWo.2.2.1 hS hA (cls_at hci) hfs (by show mC k - rc + 1 ≤ mC k; omega) (by show mS k - rs + clN ci ≤ mS k; omega) hd (fun q H1 hP hD hS1 => ?_)
  have he : (.inr (ci, (bl ci).mapIdx (fun i o => fV ad (u0 μ S.length) S.length i o)) : va_E) = mkE (upA ad S.length q) (upA cA S.length 0) (u0 μ S.length) S.length (.inr (ci, bl ci)) := by
    show (Sum.inr _ : va_E) = Sum.inr _
    refine congrArg Sum.inr (congrArg (Prod.mk _) ?_)
    apply List.ext_getElem?
    intro j
    rw [List.getElem?_mapIdx, List.getElem?_mapIdx]
    rcases ho : (bl ci)[j]? with _ | o
    · rfl
    · have hj : j < clN ci := by rw [← hbl]; exact (List.getElem?_eq_some_iff.mp ho).1
      rcases hbf j hj with ⟨h1, h2⟩ | ⟨h1, h2, h3⟩
      · rw [h1] at ho; cases ho; rfl
      · rw [h1] at ho; cases ho; rfl
  rw [mkW_push hWo.2.2.2.2.2 he] at hP hD
  have hag : ∀ x, x < S.length → upA ad S.length q x = ad x := fun x hx => upA_lt hx
  have hlen : (S ++ [.inr (ci, bl ci)] : List Shp).length = S.length + 1 := by simp
  have hTy : TyOK (S ++ [.inr (ci, bl ci)]) (upA cA S.length 0) tys := by
    intro p2 b2 n2 h2
    by_cases hl : p2 < S.length
    · rw [List.getElem?_append_left hl] at h2
      rw [upA_lt hl]
      exact hWo.2.2.2.1 p2 b2 n2 h2
    · have h3 := (List.getElem?_eq_some_iff.mp h2).1
      have hq2 : p2 = S.length := by simp at h3; omega
      subst hq2
      have e2 : (S ++ [.inr (ci, bl ci)] : List Shp)[S.length]? = some (.inr (ci, bl ci)) := by simp
      rw [e2] at h2
      cases h2
  have hst : (vR S.length :: st).map (trV (upA ad S.length q)) = .ref q :: st.map (trV ad) := by
    show Value.ref (upA ad S.length q S.length) :: _ = _
    rw [upA_self, map_ag hag hF.2.2.2.1]
  have := kk (upA ad S.length q) (upA cA S.length 0) tys H1 locs lsR (fun x hx => ⟨upA_lt hx, upA_lt hx⟩) (by show S.length ≤ (S ++ [.inr (ci, bl ci)] : List Shp).length; rw [hlen]; omega) ⟨hWo.1, hP, hD, hTy, hWo.2.2.2.2.1.zo, hWo.2.2.2.2.2.push hsh⟩ hS1
    (by
      show Fs (upA ad S.length q) k (S ++ [.inr (ci, bl ci)] : List Shp).length ls (vR S.length :: st) lsR
      rw [hlen]
      refine hF.ag hag (by omega) (fun v hv => ?_)
      rcases List.mem_cons.mp hv with rfl | hv
      · exact Nat.lt_succ_self _
      · exact okV_mono (Nat.le_succ _) (hF.2.2.2.1 v hv))
    (by show rc - 1 ≤ mC k; omega) (by show rs - (bl ci).length ≤ mS k; omega)
  rw [hst] at this
  have e1 : mC k - rc + 1 = mC k - (rc - 1) := by omega
  have e2 : mS k - rs + clN ci = mS k - (rs - (bl ci).length) := by omega
  rw [e1, e2]
  exact this
theorem sn_max {i : Nat} {x y : Int} {st' : List PV} (h : Hyp p s m args meth c H locs k D S μ ad cA tys A ls (vI y :: vI x :: st') lsR rc rs) (hd : decode (mB k) pc = .ok (.invokestatic i, 3)) (hlk : Cond.methodLink (nmC (mI k)) i Lib.Math.max.name ∈ lw_tbl) (hR : 1 ≤ mF k ∧ 21 ≤ mO k) (hl : st'.length ≤ 4) (kk : Cn p l e s m args below meth c Q k D A S.length ad cA (pc + 3) ls (vI (if x < y then y else x) :: st') (S, μ, rc, rs)) : W p l e (rmK k) s m args below meth c H locs (mC k - rc) (mS k - rs) Q (F0 m pc lsR ((vI y :: vI x :: st').map (trV ad))) := by
  obtain ⟨hX, hWo, hS, hA, hF, hrc, hrs⟩ := h
  have hy : iR y := hF.2.2.2.1 (vI y) (by simp)
  have hx : iR x := hF.2.2.2.1 (vI x) (by simp)
  show W p l e (rmK k) s m args below meth c H locs (mC k - rc) (mS k - rs) Q (F0 m pc lsR (.int (oI y) :: .int (oI x) :: st'.map (trV ad)))
  have hcs := cat_sum (ad := ad) st' 4 hl
  refine va_mmax hX.2.1 hX.2.2.1 (by rw [hX.2.2.2.2.1]; exact hF.1.1.symm) hX.2.2.2.2.2.1 (hX.w hlk rfl) (hX.w jw_all.1 rfl) (hX.w jw_all.2.1 rfl) (hX.w jw_all.2.2.1 rfl) hR.1 (by show _ ≤ mO k; omega) (by show mC k - rc ≤ mC k; omega) (by show mS k - rs ≤ mS k; omega) hd ?_
  rw [oI_max hx hy]
  exact kk.go hWo hS (hF.stk (fun v hv => by
    rcases List.mem_cons.mp hv with rfl | hv
    · show iR _
      split
      · exact hy
      · exact hx
    · exact hF.2.2.2.1 v (by simp [hv]))) hrc hrs
theorem sn_copy {i q0 q1 n0 n1 : Nat} {sp dp n : Int} {st' : List PV} (h : Hyp p s m args meth c H locs k D S μ ad cA tys A ls (vI n :: vI dp :: vR q1 :: vI sp :: vR q0 :: st') lsR rc rs) (hd : decode (mB k) pc = .ok (.invokestatic i, 3)) (hlk : Cond.methodLink (nmC (mI k)) i arraycopyName ∈ lw_tbl) (hR : 1 ≤ mF k ∧ 26 ≤ mO k) (h0 : S[q0]? = some (.inl (false, n0))) (h1 : S[q1]? = some (.inl (false, n1))) (hq : 0 ≤ sp ∧ 0 ≤ dp ∧ 0 ≤ n ∧ sp + n ≤ n0 ∧ dp + n ≤ n1) (hl : st'.length ≤ 4) (kk : Cn p l e s m args below meth c Q k D A S.length ad cA (pc + 3) ls st' (S, cpM μ q0 q1 sp dp n, rc, rs)) : W p l e (rmK k) s m args below meth c H locs (mC k - rc) (mS k - rs) Q (F0 m pc lsR ((vI n :: vI dp :: vR q1 :: vI sp :: vR q0 :: st').map (trV ad))) := by
  obtain ⟨hX, hWo, hS, hA, hF, hrc, hrs⟩ := h
  have hn : iR n := hF.2.2.2.1 (vI n) (by simp)
  have hdp : iR dp := hF.2.2.2.1 (vI dp) (by simp)
  have hsp : iR sp := hF.2.2.2.1 (vI sp) (by simp)
  obtain ⟨t0, ht0⟩ := hWo.2.2.2.1 q0 false n0 h0
  obtain ⟨t1, ht1⟩ := hWo.2.2.2.1 q1 false n1 h1
  have ng : ∀ {x : Int}, iR x → 0 ≤ x → ¬ oI x < 0 := fun {x} hx h => by rw [← oI_0, oI_lt hx (by decide)]; omega
  have hcs := cat_sum (ad := ad) st' 4 hl
  have hnf : nativeFrameWords "java/lang/System" "arraycopy" 5 = 7 := by decide +kernel
  show W p l e (rmK k) s m args below meth c H locs (mC k - rc) (mS k - rs) Q (F0 m pc lsR (.int (oI n) :: .int (oI dp) :: .ref (ad q1) :: .int (oI sp) :: .ref (ad q0) :: st'.map (trV ad)))
  refine va_copyi (ty := .int) hX.2.1 hX.2.2.1 (by rw [hX.2.2.2.2.1]; exact hF.1.1.symm) hX.2.2.2.2.2.1 (hX.w hlk rfl) (hX.w jw_all.2.2.2.1 rfl) (hX.w jw_all.2.2.2.2.1 rfl) (hX.w jw_all.2.2.2.2.2.1 rfl) hWo.1 hWo.2.1 hWo.2.2.1 hS q0 q1 t0 t1 (mkW_at h0) (mkW_at h1) ht0 ht1 rfl (ng hsp hq.1) (ng hdp hq.2.1) (ng hn hq.2.2.1) (by rw [oI_cl hsp, oI_cl hn]; omega) (by rw [oI_cl hdp, oI_cl hn]; omega) (fun _ _ => rfl) hR.1 (by show _ ≤ mO k; rw [hnf]; omega) hd (fun H1 locs1 hP hD hS1 => ?_)
  rw [oI_cl hsp, oI_cl hdp, oI_cl hn, mkW_cpy h1 hq.1 hq.2.1 hq.2.2.1] at hP hD
  exact kk.go ⟨hWo.1, hP, hD, hWo.2.2.2.1, hWo.2.2.2.2.1.cp, hWo.2.2.2.2.2⟩ hS1 (hF.stk (fun v hv => hF.2.2.2.1 v (by simp [hv]))) hrc hrs
theorem sn_obj {i q : Nat} (h : Hyp p s m args meth c H locs k D S μ ad cA tys A ls [vR q] lsR rc rs) (hd : decode (mB k) pc = .ok (.invokespecial i, 3)) (hlk : Cond.methodLink (nmC (mI k)) i Lib.objectInit ∈ lw_tbl) (hR : 1 ≤ mF k ∧ 12 ≤ mO k) (kk : Cn p l e s m args below meth c Q k D A S.length ad cA (pc + 3) ls [] (S, μ, rc, rs)) : W p l e (rmK k) s m args below meth c H locs (mC k - rc) (mS k - rs) Q (F0 m pc lsR ([vR q].map (trV ad))) := by
  obtain ⟨hX, hWo, hS, hA, hF, hrc, hrs⟩ := h
  refine W.objInit (g := F0 m pc lsR [.ref (ad q)]) hX.2.1 hX.2.2.1 hX.2.2.2.2.2.1 (hX.w hlk rfl) (hX.w jw_all.2.2.2.2.2.2.1 rfl) (hX.w jw_all.2.2.2.2.2.2.2.1 rfl) rfl (by rw [hX.2.2.2.2.1]; exact hF.1.1) rfl hd hR.1 (by show 2 * 0 + 0 + 12 ≤ mO k; omega) ?_
  exact kk.go hWo hS (hF.stk (fun v hv => by cases hv)) hrc hrs
end SNN
end
section
/-! every simple step -/
theorem any_fk {o i a b : Nat} (h : FK.any (fun q => q.1 == o && q.2.1 == i && q.2.2.1 == a && q.2.2.2.1 == b) = true) : Cond.fieldLink (nmC o) i (clT a b).1 (clT a b).2.1 (clT a b).2.2.1 ∈ lw_tbl ∧ a < 13 ∧ b < clN a := by
  obtain ⟨q, hq, h⟩ := List.any_eq_true.mp h
  simp only [Bool.and_eq_true, beq_iff_eq] at h
  obtain ⟨⟨⟨rfl, rfl⟩, rfl⟩, rfl⟩ := h
  have h2 := List.all_eq_true.mp fk_ok q hq
  unfold fkc at h2
  rw [Bool.and_eq_true] at h2
  exact ⟨lwAt_mem h2.1, of_decide_eq_true h2.2⟩
theorem any_mk {o i a b : Nat} (h : MK.any (fun q => q.1 == o && q.2.1 == i && q.2.2.1 == b && q.2.2.2.1 == a) = true) : ∃ q ∈ MK, q.1 = o ∧ q.2.1 = i ∧ q.2.2.1 = b ∧ q.2.2.2.1 = a ∧ mkc q = true := by
  obtain ⟨q, hq, h⟩ := List.any_eq_true.mp h
  simp only [Bool.and_eq_true, beq_iff_eq] at h
  exact ⟨q, hq, h.1.1.1, h.1.1.2, h.1.2, h.2, List.all_eq_true.mp mk_ok q hq⟩
theorem any_ck {o i a : Nat} (h : CK.any (fun q => q.1 == o && q.2.1 == i && q.2.2.1 == a) = true) : Cond.classLink (nmC o) i (nmC a) ∈ lw_tbl ∧ Cond.instantiable (nmC a) (clN a) ∈ lw_tbl ∧ a < 13 := by
  obtain ⟨q, hq, h⟩ := List.any_eq_true.mp h
  simp only [Bool.and_eq_true, beq_iff_eq] at h
  obtain ⟨⟨rfl, rfl⟩, rfl⟩ := h
  have h2 := List.all_eq_true.mp ck_ok q hq
  unfold ckc at h2
  simp only [Bool.and_eq_true] at h2
  exact ⟨lwAt_mem h2.1.1, lwAt_mem h2.1.2, (of_decide_eq_true h2.2).1⟩
theorem any_kk {o i : Nat} {v : Int} (h : KK.any (fun q => q.1 == o && q.2.1 == i && decide (q.2.2.1 = v)) = true) : Cond.constantLong (nmC o) i (Int64.ofInt v) ∈ lw_tbl ∧ iR v := by
  obtain ⟨q, hq, h⟩ := List.any_eq_true.mp h
  simp only [Bool.and_eq_true, beq_iff_eq, decide_eq_true_eq] at h
  obtain ⟨⟨rfl, rfl⟩, rfl⟩ := h
  have h2 := List.all_eq_true.mp kk_ok q hq
  unfold kkc at h2
  rw [Bool.and_eq_true] at h2
  exact ⟨lwAt_mem h2.1, of_decide_eq_true h2.2⟩

section SND2
variable {p : Program} {l : Launch} {e : Env} {s : State} {m : MethodId} {args : Array Value} {below : List Frame} {meth : Method} {c : Code} {H : Heap} {locs : List Loc} {Q : State → Prop} {k pc : Nat} {D : va_G} {S : List Shp} {μ : Mu} {ad : Nat → Nat} {cA : Nat → ClassId} {tys : List (ClassId × FieldType)} {A : Nat → Prop} {ls : Lo} {st : List PV} {lsR : Array Slot} {rc rs : Nat}
set_option maxHeartbeats 4000000 in
theorem stp_snd {en : En} {len pc' : Nat} {ls' : Lo} {st' : List PV} {M' : Mem} (h : Hyp p s m args meth c H locs k D S μ ad cA tys A ls st lsR rc rs) (hd : decode (mB k) pc = .ok (en.1, len)) (hok : okI k pc len en = true) (hs : stp en ls st (S, μ, rc, rs) = some (pc', ls', st', M')) (kk : Cn p l e s m args below meth c Q k D A S.length ad cA pc' ls' st' M') : W p l e (rmK k) s m args below meth c H locs (mC k - rc) (mS k - rs) Q (F0 m pc lsR (st.map (trV ad))) := by
  obtain ⟨ins, nx, cv, a, b, tg⟩ := en
  cases ins
  case iconst n =>
    unfold okI at hok
    dsimp only at hok
    simp only [Bool.and_eq_true, beq_iff_eq, decide_eq_true_eq] at hok
    unfold stp at hs
    dsimp only at hs
    obtain ⟨⟨rfl, rfl⟩, hv⟩ := hok
    simp only [Option.some.injEq, Prod.mk.injEq] at hs
    obtain ⟨rfl, rfl, rfl, rfl⟩ := hs
    exact sn_iconst h hd hv kk
  case bipush n =>
    unfold okI at hok
    dsimp only at hok
    simp only [Bool.and_eq_true, beq_iff_eq, decide_eq_true_eq] at hok
    unfold stp at hs
    dsimp only at hs
    obtain ⟨⟨rfl, rfl⟩, hv⟩ := hok
    simp only [Option.some.injEq, Prod.mk.injEq] at hs
    obtain ⟨rfl, rfl, rfl, rfl⟩ := hs
    exact sn_bipush h hd hv kk
  case sipush n =>
    unfold okI at hok
    dsimp only at hok
    simp only [Bool.and_eq_true, beq_iff_eq, decide_eq_true_eq] at hok
    unfold stp at hs
    dsimp only at hs
    obtain ⟨⟨rfl, rfl⟩, hv⟩ := hok
    simp only [Option.some.injEq, Prod.mk.injEq] at hs
    obtain ⟨rfl, rfl, rfl, rfl⟩ := hs
    exact sn_sipush h hd hv kk
  case lconst n =>
    unfold okI at hok
    dsimp only at hok
    simp only [Bool.and_eq_true, beq_iff_eq, decide_eq_true_eq] at hok
    unfold stp at hs
    dsimp only at hs
    obtain ⟨⟨rfl, rfl⟩, hv⟩ := hok
    simp only [Option.some.injEq, Prod.mk.injEq] at hs
    obtain ⟨rfl, rfl, rfl, rfl⟩ := hs
    exact sn_lconst h hd hv kk
  case ldc2_w i =>
    unfold okI at hok
    dsimp only at hok
    simp only [Bool.and_eq_true, beq_iff_eq, decide_eq_true_eq] at hok
    unfold stp at hs
    dsimp only at hs
    obtain ⟨⟨rfl, rfl⟩, hv⟩ := hok
    simp only [Option.some.injEq, Prod.mk.injEq] at hs
    obtain ⟨rfl, rfl, rfl, rfl⟩ := hs
    exact sn_ldc2 h hd (any_kk (by simpa using hv)) kk
  case iload i =>
    unfold okI at hok
    dsimp only at hok
    simp only [Bool.and_eq_true, beq_iff_eq, decide_eq_true_eq] at hok
    unfold stp at hs
    dsimp only at hs
    obtain ⟨⟨rfl, rfl⟩, rfl⟩ := hok
    split at hs
    · rename_i x hx
      simp only [Option.some.injEq, Prod.mk.injEq] at hs
      obtain ⟨rfl, rfl, rfl, rfl⟩ := hs
      exact sn_iload h hd hx kk
    · cases hs
  case iload_n i =>
    unfold okI at hok
    dsimp only at hok
    simp only [Bool.and_eq_true, beq_iff_eq, decide_eq_true_eq] at hok
    unfold stp at hs
    dsimp only at hs
    obtain ⟨⟨rfl, rfl⟩, rfl⟩ := hok
    split at hs
    · rename_i x hx
      simp only [Option.some.injEq, Prod.mk.injEq] at hs
      obtain ⟨rfl, rfl, rfl, rfl⟩ := hs
      exact sn_iload_n h hd hx kk
    · cases hs
  case lload i =>
    unfold okI at hok
    dsimp only at hok
    simp only [Bool.and_eq_true, beq_iff_eq, decide_eq_true_eq] at hok
    unfold stp at hs
    dsimp only at hs
    obtain ⟨⟨rfl, rfl⟩, rfl⟩ := hok
    split at hs
    · rename_i x hx
      simp only [Option.some.injEq, Prod.mk.injEq] at hs
      obtain ⟨rfl, rfl, rfl, rfl⟩ := hs
      exact sn_lload h hd hx kk
    · cases hs
  case lload_n i =>
    unfold okI at hok
    dsimp only at hok
    simp only [Bool.and_eq_true, beq_iff_eq, decide_eq_true_eq] at hok
    unfold stp at hs
    dsimp only at hs
    obtain ⟨⟨rfl, rfl⟩, rfl⟩ := hok
    split at hs
    · rename_i x hx
      simp only [Option.some.injEq, Prod.mk.injEq] at hs
      obtain ⟨rfl, rfl, rfl, rfl⟩ := hs
      exact sn_lload_n h hd hx kk
    · cases hs
  case aload i =>
    unfold okI at hok
    dsimp only at hok
    simp only [Bool.and_eq_true, beq_iff_eq, decide_eq_true_eq] at hok
    unfold stp at hs
    dsimp only at hs
    obtain ⟨⟨rfl, rfl⟩, rfl⟩ := hok
    split at hs
    · rename_i x hx
      simp only [Option.some.injEq, Prod.mk.injEq] at hs
      obtain ⟨rfl, rfl, rfl, rfl⟩ := hs
      exact sn_aload h hd hx kk
    · cases hs
  case aload_n i =>
    unfold okI at hok
    dsimp only at hok
    simp only [Bool.and_eq_true, beq_iff_eq, decide_eq_true_eq] at hok
    unfold stp at hs
    dsimp only at hs
    obtain ⟨⟨rfl, rfl⟩, rfl⟩ := hok
    split at hs
    · rename_i x hx
      simp only [Option.some.injEq, Prod.mk.injEq] at hs
      obtain ⟨rfl, rfl, rfl, rfl⟩ := hs
      exact sn_aload_n h hd hx kk
    · cases hs
  case istore i =>
    unfold okI at hok
    dsimp only at hok
    simp only [Bool.and_eq_true, beq_iff_eq, decide_eq_true_eq] at hok
    unfold stp at hs
    dsimp only at hs
    obtain ⟨⟨⟨⟨rfl, rfl⟩, rfl⟩, hi⟩, hk⟩ := hok
    split at hs
    · rename_i x st2
      simp only [Option.some.injEq, Prod.mk.injEq] at hs
      obtain ⟨rfl, rfl, rfl, rfl⟩ := hs
      exact sn_istore h hd hi hk kk
    · cases hs
  case istore_n i =>
    unfold okI at hok
    dsimp only at hok
    simp only [Bool.and_eq_true, beq_iff_eq, decide_eq_true_eq] at hok
    unfold stp at hs
    dsimp only at hs
    obtain ⟨⟨⟨⟨rfl, rfl⟩, rfl⟩, hi⟩, hk⟩ := hok
    split at hs
    · rename_i x st2
      simp only [Option.some.injEq, Prod.mk.injEq] at hs
      obtain ⟨rfl, rfl, rfl, rfl⟩ := hs
      exact sn_istore_n h hd hi hk kk
    · cases hs
  case iinc i n =>
    unfold okI at hok
    dsimp only at hok
    simp only [Bool.and_eq_true, beq_iff_eq, decide_eq_true_eq] at hok
    unfold stp at hs
    dsimp only at hs
    obtain ⟨⟨⟨⟨⟨rfl, rfl⟩, rfl⟩, hi⟩, hk⟩, hv⟩ := hok
    split at hs
    · rename_i x hx
      split at hs
      · rename_i hr
        simp only [Option.some.injEq, Prod.mk.injEq] at hs
        obtain ⟨rfl, rfl, rfl, rfl⟩ := hs
        exact sn_iinc h hd hi hk hv hx hr kk
      · cases hs
    · cases hs
  case iadd =>
    unfold okI at hok
    dsimp only at hok
    simp only [Bool.and_eq_true, beq_iff_eq, decide_eq_true_eq] at hok
    unfold stp at hs
    dsimp only at hs
    obtain ⟨rfl, rfl⟩ := hok
    split at hs
    · rename_i y x st2
      split at hs
      · rename_i hr
        simp only [Option.some.injEq, Prod.mk.injEq] at hs
        obtain ⟨rfl, rfl, rfl, rfl⟩ := hs
        exact sn_iadd h hd hr kk
      · cases hs
    · cases hs
  case isub =>
    unfold okI at hok
    dsimp only at hok
    simp only [Bool.and_eq_true, beq_iff_eq, decide_eq_true_eq] at hok
    unfold stp at hs
    dsimp only at hs
    obtain ⟨rfl, rfl⟩ := hok
    split at hs
    · rename_i y x st2
      split at hs
      · rename_i hr
        simp only [Option.some.injEq, Prod.mk.injEq] at hs
        obtain ⟨rfl, rfl, rfl, rfl⟩ := hs
        exact sn_isub h hd hr kk
      · cases hs
    · cases hs
  case imul =>
    unfold okI at hok
    dsimp only at hok
    simp only [Bool.and_eq_true, beq_iff_eq, decide_eq_true_eq] at hok
    unfold stp at hs
    dsimp only at hs
    obtain ⟨rfl, rfl⟩ := hok
    split at hs
    · rename_i y x st2
      split at hs
      · rename_i hr
        simp only [Option.some.injEq, Prod.mk.injEq] at hs
        obtain ⟨rfl, rfl, rfl, rfl⟩ := hs
        exact sn_imul h hd hr kk
      · cases hs
    · cases hs
  case idiv =>
    unfold okI at hok
    dsimp only at hok
    simp only [Bool.and_eq_true, beq_iff_eq, decide_eq_true_eq] at hok
    unfold stp at hs
    dsimp only at hs
    obtain ⟨rfl, rfl⟩ := hok
    split at hs
    · rename_i y x st2
      split at hs
      · rename_i hr
        simp only [Option.some.injEq, Prod.mk.injEq] at hs
        obtain ⟨rfl, rfl, rfl, rfl⟩ := hs
        exact sn_idiv h hd hr kk
      · cases hs
    · cases hs
  case irem =>
    unfold okI at hok
    dsimp only at hok
    simp only [Bool.and_eq_true, beq_iff_eq, decide_eq_true_eq] at hok
    unfold stp at hs
    dsimp only at hs
    obtain ⟨rfl, rfl⟩ := hok
    split at hs
    · rename_i y x st2
      split at hs
      · rename_i hr
        simp only [Option.some.injEq, Prod.mk.injEq] at hs
        obtain ⟨rfl, rfl, rfl, rfl⟩ := hs
        exact sn_irem h hd hr kk
      · cases hs
    · cases hs
  case ishl =>
    unfold okI at hok
    dsimp only at hok
    simp only [Bool.and_eq_true, beq_iff_eq, decide_eq_true_eq] at hok
    unfold stp at hs
    dsimp only at hs
    obtain ⟨rfl, rfl⟩ := hok
    split at hs
    · rename_i y x st2
      split at hs
      · rename_i hr
        simp only [Option.some.injEq, Prod.mk.injEq] at hs
        obtain ⟨rfl, rfl, rfl, rfl⟩ := hs
        exact sn_ishl h hd hr kk
      · cases hs
    · cases hs
  case ishr =>
    unfold okI at hok
    dsimp only at hok
    simp only [Bool.and_eq_true, beq_iff_eq, decide_eq_true_eq] at hok
    unfold stp at hs
    dsimp only at hs
    obtain ⟨rfl, rfl⟩ := hok
    split at hs
    · rename_i y x st2
      split at hs
      · rename_i hr
        simp only [Option.some.injEq, Prod.mk.injEq] at hs
        obtain ⟨rfl, rfl, rfl, rfl⟩ := hs
        exact sn_ishr h hd hr kk
      · cases hs
    · cases hs
  case iand =>
    unfold okI at hok
    dsimp only at hok
    simp only [Bool.and_eq_true, beq_iff_eq, decide_eq_true_eq] at hok
    unfold stp at hs
    dsimp only at hs
    obtain ⟨rfl, rfl⟩ := hok
    split at hs
    · rename_i y x st2
      split at hs
      · rename_i hr
        simp only [Option.some.injEq, Prod.mk.injEq] at hs
        obtain ⟨rfl, rfl, rfl, rfl⟩ := hs
        exact sn_iand h hd hr kk
      · cases hs
    · cases hs
  case ior =>
    unfold okI at hok
    dsimp only at hok
    simp only [Bool.and_eq_true, beq_iff_eq, decide_eq_true_eq] at hok
    unfold stp at hs
    dsimp only at hs
    obtain ⟨rfl, rfl⟩ := hok
    split at hs
    · rename_i y x st2
      split at hs
      · rename_i hr
        simp only [Option.some.injEq, Prod.mk.injEq] at hs
        obtain ⟨rfl, rfl, rfl, rfl⟩ := hs
        exact sn_ior h hd hr kk
      · cases hs
    · cases hs
  case ixor =>
    unfold okI at hok
    dsimp only at hok
    simp only [Bool.and_eq_true, beq_iff_eq, decide_eq_true_eq] at hok
    unfold stp at hs
    dsimp only at hs
    obtain ⟨rfl, rfl⟩ := hok
    split at hs
    · rename_i y x st2
      split at hs
      · rename_i hr
        simp only [Option.some.injEq, Prod.mk.injEq] at hs
        obtain ⟨rfl, rfl, rfl, rfl⟩ := hs
        exact sn_ixor h hd hr kk
      · cases hs
    · cases hs
  case i2l =>
    unfold okI at hok
    dsimp only at hok
    simp only [Bool.and_eq_true, beq_iff_eq, decide_eq_true_eq] at hok
    unfold stp at hs
    dsimp only at hs
    obtain ⟨rfl, rfl⟩ := hok
    split at hs
    · rename_i x st2
      simp only [Option.some.injEq, Prod.mk.injEq] at hs
      obtain ⟨rfl, rfl, rfl, rfl⟩ := hs
      exact sn_i2l h hd kk
    · cases hs
  case lcmp =>
    unfold okI at hok
    dsimp only at hok
    simp only [Bool.and_eq_true, beq_iff_eq, decide_eq_true_eq] at hok
    unfold stp at hs
    dsimp only at hs
    obtain ⟨rfl, rfl⟩ := hok
    split at hs
    · rename_i y x st2
      simp only [Option.some.injEq, Prod.mk.injEq] at hs
      obtain ⟨rfl, rfl, rfl, rfl⟩ := hs
      exact sn_lcmp h hd kk
    · cases hs
  case dup =>
    unfold okI at hok
    dsimp only at hok
    simp only [Bool.and_eq_true, beq_iff_eq, decide_eq_true_eq] at hok
    unfold stp at hs
    dsimp only at hs
    obtain ⟨rfl, rfl⟩ := hok
    split at hs
    · rename_i v st2
      split at hs
      · cases hs
      · rename_i hv
        simp only [Option.some.injEq, Prod.mk.injEq] at hs
        obtain ⟨rfl, rfl, rfl, rfl⟩ := hs
        exact sn_dup h hd (by simpa using hv) kk
    · cases hs
  case dup2 =>
    unfold okI at hok
    dsimp only at hok
    simp only [Bool.and_eq_true, beq_iff_eq, decide_eq_true_eq] at hok
    unfold stp at hs
    dsimp only at hs
    obtain ⟨rfl, rfl⟩ := hok
    split at hs
    · rename_i v w st2
      split at hs
      · cases hs
      · rename_i hv
        simp only [Bool.or_eq_true, not_or, Bool.not_eq_true] at hv
        simp only [Option.some.injEq, Prod.mk.injEq] at hs
        obtain ⟨rfl, rfl, rfl, rfl⟩ := hs
        exact sn_dup2 h hd hv.1 hv.2 kk
    · cases hs
  case goto off =>
    unfold okI at hok
    dsimp only at hok
    simp only [Bool.and_eq_true, beq_iff_eq, decide_eq_true_eq] at hok
    unfold stp at hs
    dsimp only at hs
    unfold tgc at hok
    obtain ⟨rfl, ht⟩ := hok
    simp only [Option.some.injEq, Prod.mk.injEq] at hs
    obtain ⟨rfl, rfl, rfl, rfl⟩ := hs
    exact sn_goto h hd (of_decide_eq_true ht) kk
  case if_icmp cd off =>
    unfold okI at hok
    dsimp only at hok
    simp only [Bool.and_eq_true, beq_iff_eq, decide_eq_true_eq] at hok
    unfold stp at hs
    dsimp only at hs
    unfold tgc at hok
    obtain ⟨⟨rfl, rfl⟩, ht⟩ := hok
    split at hs
    · rename_i y x st2
      simp only [Option.some.injEq, Prod.mk.injEq] at hs
      obtain ⟨rfl, rfl, rfl, rfl⟩ := hs
      exact sn_icmp h hd (of_decide_eq_true ht) kk
    · cases hs
  case ifCond cd off =>
    unfold okI at hok
    dsimp only at hok
    simp only [Bool.and_eq_true, beq_iff_eq, decide_eq_true_eq] at hok
    unfold stp at hs
    dsimp only at hs
    unfold tgc at hok
    obtain ⟨⟨rfl, rfl⟩, ht⟩ := hok
    split at hs
    · rename_i x st2
      simp only [Option.some.injEq, Prod.mk.injEq] at hs
      obtain ⟨rfl, rfl, rfl, rfl⟩ := hs
      exact sn_if h hd (of_decide_eq_true ht) kk
    · cases hs
  case tableswitch d lo hi offs =>
    unfold okI at hok
    dsimp only at hok
    simp only [Bool.and_eq_true, beq_iff_eq, decide_eq_true_eq] at hok
    unfold stp at hs
    dsimp only at hs
    unfold tgc at hok
    obtain ⟨⟨⟨h1, h2⟩, h3⟩, h4⟩ := hok
    split at hs
    · rename_i x st2
      simp only [Option.some.injEq, Prod.mk.injEq] at hs
      obtain ⟨rfl, rfl, rfl, rfl⟩ := hs
      refine sn_switch h hd (of_decide_eq_true h1) h2 h3 (fun j hj => ?_) kk
      have := List.all_eq_true.mp h4 j (List.mem_range.mpr hj)
      exact of_decide_eq_true this
    · cases hs
  case getfield i =>
    unfold okI at hok
    dsimp only at hok
    simp only [Bool.and_eq_true, beq_iff_eq, decide_eq_true_eq] at hok
    unfold stp at hs
    dsimp only at hs
    obtain ⟨⟨rfl, rfl⟩, hf⟩ := hok
    have hf := any_fk hf
    split at hs
    · rename_i q st2
      split at hs
      · rename_i ci fs hq
        split at hs
        · rename_i hci
          subst hci
          split at hs
          · rename_i hv
            simp only [Option.some.injEq, Prod.mk.injEq] at hs
            obtain ⟨rfl, rfl, rfl, rfl⟩ := hs
            exact sn_get h hd hf.1 hf.2.2 hq (Or.inl ⟨hv, rfl⟩) kk
          · rename_i z hv
            simp only [Option.some.injEq, Prod.mk.injEq] at hs
            obtain ⟨rfl, rfl, rfl, rfl⟩ := hs
            exact sn_get h hd hf.1 hf.2.2 hq (Or.inr ⟨z, hv, rfl⟩) kk
          · cases hs
        · cases hs
      · cases hs
    · cases hs
  case putfield i =>
    unfold okI at hok
    dsimp only at hok
    simp only [Bool.and_eq_true, beq_iff_eq, decide_eq_true_eq] at hok
    unfold stp at hs
    dsimp only at hs
    obtain ⟨⟨⟨rfl, rfl⟩, hf⟩, hfin⟩ := hok
    have hf := any_fk hf
    have hfin : (clT a b).2.2.2 = false ∨ (mZ k = 1 ∧ (clT a b).1 = nmC (mI k)) := by
      rcases Bool.or_eq_true _ _ |>.mp hfin with h1 | h1
      · exact Or.inl (by simpa using h1)
      · rw [Bool.and_eq_true] at h1
        exact Or.inr ⟨by simpa using h1.1, of_decide_eq_true h1.2⟩
    split at hs
    · rename_i x q st2
      split at hs
      · rename_i ci fs hq
        split at hs
        · rename_i hci
          subst hci
          split at hs
          · rename_i hv
            simp only [Option.some.injEq, Prod.mk.injEq] at hs
            obtain ⟨rfl, rfl, rfl, rfl⟩ := hs
            exact sn_putI h hd hf.1 hf.2.2 hfin hq hv kk
          · cases hs
        · cases hs
      · cases hs
    · rename_i z q st2
      split at hs
      · rename_i ci fs hq
        split at hs
        · rename_i hci
          subst hci
          split at hs
          · rename_i o hv
            simp only [Option.some.injEq, Prod.mk.injEq] at hs
            obtain ⟨rfl, rfl, rfl, rfl⟩ := hs
            exact sn_putR h hd hf.1 hf.2.2 hfin hq hv kk
          · cases hs
        · cases hs
      · cases hs
    · cases hs
  case iaload =>
    unfold okI at hok
    dsimp only at hok
    simp only [Bool.and_eq_true, beq_iff_eq, decide_eq_true_eq] at hok
    unfold stp at hs
    dsimp only at hs
    obtain ⟨rfl, rfl⟩ := hok
    split at hs
    · rename_i i q st2
      split at hs
      · rename_i n hq
        split at hs
        · rename_i hi
          simp only [Option.some.injEq, Prod.mk.injEq] at hs
          obtain ⟨rfl, rfl, rfl, rfl⟩ := hs
          exact sn_iald h hd hq hi kk
        · cases hs
      · cases hs
    · cases hs
  case baload =>
    unfold okI at hok
    dsimp only at hok
    simp only [Bool.and_eq_true, beq_iff_eq, decide_eq_true_eq] at hok
    unfold stp at hs
    dsimp only at hs
    obtain ⟨rfl, rfl⟩ := hok
    split at hs
    · rename_i i q st2
      split at hs
      · rename_i n hq
        split at hs
        · rename_i hi
          simp only [Option.some.injEq, Prod.mk.injEq] at hs
          obtain ⟨rfl, rfl, rfl, rfl⟩ := hs
          exact sn_bald h hd hq hi kk
        · cases hs
      · cases hs
    · cases hs
  case iastore =>
    unfold okI at hok
    dsimp only at hok
    simp only [Bool.and_eq_true, beq_iff_eq, decide_eq_true_eq] at hok
    unfold stp at hs
    dsimp only at hs
    obtain ⟨rfl, rfl⟩ := hok
    split at hs
    · rename_i x i q st2
      split at hs
      · rename_i n hq
        split at hs
        · rename_i hi
          simp only [Option.some.injEq, Prod.mk.injEq] at hs
          obtain ⟨rfl, rfl, rfl, rfl⟩ := hs
          exact sn_iast h hd hq hi kk
        · cases hs
      · cases hs
    · cases hs
  case bastore =>
    unfold okI at hok
    dsimp only at hok
    simp only [Bool.and_eq_true, beq_iff_eq, decide_eq_true_eq] at hok
    unfold stp at hs
    dsimp only at hs
    obtain ⟨rfl, rfl⟩ := hok
    split at hs
    · rename_i x i q st2
      split at hs
      · rename_i n hq
        split at hs
        · rename_i hi
          simp only [Option.some.injEq, Prod.mk.injEq] at hs
          obtain ⟨rfl, rfl, rfl, rfl⟩ := hs
          exact sn_bast h hd hq hi kk
        · cases hs
      · cases hs
    · cases hs
  case newarray t =>
    unfold okI at hok
    dsimp only at hok
    simp only [Bool.and_eq_true, beq_iff_eq, decide_eq_true_eq] at hok
    unfold stp at hs
    dsimp only at hs
    obtain ⟨⟨rfl, rfl⟩, ht⟩ := hok
    have ht : (t = .int ∧ (a == 1) = false) ∨ (t = .boolean ∧ (a == 1) = true) := by
      rcases Bool.or_eq_true _ _ |>.mp ht with h1 | h1
      · rw [Bool.and_eq_true] at h1
        refine Or.inl ⟨of_decide_eq_true h1.1, ?_⟩
        have := h1.2
        simp only [beq_iff_eq] at this
        rw [this]; rfl
      · rw [Bool.and_eq_true] at h1
        refine Or.inr ⟨of_decide_eq_true h1.1, ?_⟩
        have := h1.2
        simp only [beq_iff_eq] at this
        rw [this]; rfl
    split at hs
    · rename_i n st2
      split at hs
      · rename_i hn
        simp only [Option.some.injEq, Prod.mk.injEq] at hs
        obtain ⟨rfl, rfl, rfl, rfl⟩ := hs
        exact sn_newa h hd ht hn kk
      · cases hs
    · cases hs
  case new i =>
    unfold okI at hok
    dsimp only at hok
    simp only [Bool.and_eq_true, beq_iff_eq, decide_eq_true_eq] at hok
    unfold stp at hs
    dsimp only at hs
    obtain ⟨⟨rfl, rfl⟩, hc⟩ := hok
    have hc := any_ck hc
    split at hs
    · rename_i hn
      simp only [Option.some.injEq, Prod.mk.injEq] at hs
      obtain ⟨rfl, rfl, rfl, rfl⟩ := hs
      exact sn_new h hd hc.1 hc.2.1 hc.2.2 hn kk
    · cases hs
  case invokestatic i =>
    unfold okI at hok
    dsimp only at hok
    simp only [Bool.and_eq_true, beq_iff_eq, decide_eq_true_eq] at hok
    unfold stp at hs
    dsimp only at hs
    obtain ⟨⟨⟨rfl, rfl⟩, hm⟩, hR⟩ := hok
    obtain ⟨z, hz, hz1, hz2, hz3, hz4, hz5⟩ := any_mk hm
    split at hs
    · rename_i hb0
      subst hb0
      rw [if_pos rfl] at hR
      split at hs
      · rename_i y x st2
        split at hs
        · rename_i hl
          simp only [Option.some.injEq, Prod.mk.injEq] at hs
          obtain ⟨rfl, rfl, rfl, rfl⟩ := hs
          have hlk : Cond.methodLink (nmC (mI k)) i Lib.Math.max.name ∈ lw_tbl := by
            unfold mkc at hz5
            rw [hz3] at hz5
            have := lwAt_mem hz5
            rw [hz1, hz2] at this
            exact this
          exact sn_max h hd hlk (of_decide_eq_true hR) hl kk
        · cases hs
      · cases hs
    · split at hs
      · rename_i hb0 hb1
        subst hb1
        rw [if_neg (by decide), if_pos rfl] at hR
        split at hs
        · rename_i n dp q sp q0 st2
          split at hs
          · rename_i n0 n1 h0 h1
            split at hs
            · rename_i hq
              simp only [Option.some.injEq, Prod.mk.injEq] at hs
              obtain ⟨rfl, rfl, rfl, rfl⟩ := hs
              have hlk : Cond.methodLink (nmC (mI k)) i arraycopyName ∈ lw_tbl := by
                unfold mkc at hz5
                rw [hz3] at hz5
                have := lwAt_mem hz5
                rw [hz1, hz2] at this
                exact this
              exact sn_copy h hd hlk (of_decide_eq_true hR) h0 h1 hq.1 hq.2 kk
            · cases hs
          · cases hs
        · cases hs
      · cases hs
  case invokespecial i =>
    unfold okI at hok
    dsimp only at hok
    simp only [Bool.and_eq_true, beq_iff_eq, decide_eq_true_eq] at hok
    unfold stp at hs
    dsimp only at hs
    obtain ⟨⟨⟨rfl, rfl⟩, hm⟩, hR⟩ := hok
    obtain ⟨z, hz, hz1, hz2, hz3, hz4, hz5⟩ := any_mk hm
    split at hs
    · rename_i hb0
      subst hb0
      rw [if_pos rfl] at hR
      split at hs
      · rename_i q st2
        split at hs
        · rename_i hl
          subst hl
          simp only [Option.some.injEq, Prod.mk.injEq] at hs
          obtain ⟨rfl, rfl, rfl, rfl⟩ := hs
          have hlk : Cond.methodLink (nmC (mI k)) i Lib.objectInit ∈ lw_tbl := by
            unfold mkc at hz5
            rw [hz3] at hz5
            have := lwAt_mem hz5
            rw [hz1, hz2] at this
            exact this
          exact sn_obj h hd hlk (of_decide_eq_true hR) kk
        · cases hs
      · cases hs
    · cases hs
  all_goals (have hs2 : (none : Option (Nat × Lo × List PV × Mem)) = some (pc', ls', st', M') := hs; cases hs2)
end SND2
end
section
/-! calls: a method's contract out of its run on the pure machine -/
def PcM (D : va_G) (S : List Shp) (μ : Mu) (ad : Nat → Nat) (cA : Nat → ClassId) (tys : List (ClassId × FieldType)) (sz : Nat) (As : List PV) : Array Value → State → Prop := va_Pc (As.map (trV ad)) (fun U => U.heap.size = sz ∧ Wo D S μ ad cA tys (fun _ => True) U U.heap ∧ NWs U)
def QcM (D : va_G) (S : List Shp) (μ : Mu) (ad : Nat → Nat) (cA : Nat → ClassId) (sz : Nat) (r : Option PV) (M' : Mem) : Array Value → State → Outcome → State → Prop := fun _ st oc t =>
  (∃ (ad' : Nat → Nat) (cA' : Nat → ClassId) (tys' : List (ClassId × FieldType)), (∀ x, x < S.length → ad' x = ad x ∧ cA' x = cA x) ∧ S.length ≤ M'.1.length ∧ oc = .returned (r.map (trV ad')) ∧ Wo D M'.1 M'.2.1 ad' cA' tys' (va_A (mkW S μ ad cA) sz) t t.heap ∧ (∀ v, r = some v → okV M'.1.length v)) ∧ va_F (va_A (mkW S μ ad cA) sz) st t
theorem PcM.blind {D : va_G} {S : List Shp} {μ : Mu} {ad : Nat → Nat} {cA : Nat → ClassId} {tys : List (ClassId × FieldType)} {sz : Nat} {As : List PV} : FrameBlind (PcM D S μ ad cA tys sz As) := fun a U g mk q => by
  obtain ⟨q0, q1, qW, qN⟩ := q
  exact ⟨q0, q1, ⟨va_K.moved (u := U) (U := U.calling g mk a) (Vm.Alike.refl U.vm) qW.1, qW.2⟩, NWs.same rfl qN⟩
def Snd (f : Nat) : Prop := ∀ (k pc : Nat) (ls : Lo) (st : List PV) (S : List Shp) (μ : Mu) (rc rs : Nat) (r : Option PV) (M' : Mem), exec f k pc ls st (S, μ, rc, rs) = some (r, M') →
  ∀ {p : Program} {l : Launch} {e : Env} {s : State} {m : MethodId} {args : Array Value} {below : List Frame} {meth : Method} {c : Code} {H : Heap} {locs : List Loc} {D : va_G} {ad : Nat → Nat} {cA : Nat → ClassId} {tys : List (ClassId × FieldType)} {A : Nat → Prop} {lsR : Array Slot} {Qc : Array Value → State → Outcome → State → Prop} {free : Addr → Prop},
    Hyp p s m args meth c H locs k D S μ ad cA tys A ls st lsR rc rs → (∀ q, A q → free q) →
    (∀ (ad' : Nat → Nat) (cA' : Nat → ClassId) (tys' : List (ClassId × FieldType)) (H' : Heap) (locs' : List Loc), (∀ x, x < S.length → ad' x = ad x ∧ cA' x = cA x) → S.length ≤ M'.1.length → Wo D M'.1 M'.2.1 ad' cA' tys' A s H' → va_S A s.heap H' locs' → (∀ v, r = some v → okV M'.1.length v) → ∀ t : State, t.heap = H' → s.WarmedH t.vm → Qc args s (.returned (r.map (trV ad'))) t) →
    W p l e (rmK k) s m args below meth c H locs (mC k - rc) (mS k - rs) (MQ below Qc args s (mC k) (mS k) free) (F0 m pc lsR (st.map (trV ad)))
theorem mw_all {k : Nat} (hk : k < 164) : mwc k = true := by
  by_cases h1 : k < 60
  · exact List.all_eq_true.mp mw_ok1 k (List.mem_range.mpr h1)
  · by_cases h2 : k < 120
    · exact List.all_eq_true.mp mw_ok2 k (List.mem_map.mpr ⟨k - 60, List.mem_range.mpr (by omega), by omega⟩)
    · exact List.all_eq_true.mp mw_ok3 k (List.mem_map.mpr ⟨k - 120, List.mem_range.mpr (by omega), by omega⟩)
theorem mw_spec {k : Nat} (hk : k < 164) : (mZ k = 2 → Cond.static (mY k) ∈ lw_tbl) ∧ (mZ k ≠ 2 → Cond.instanceMethod (mY k) ∈ lw_tbl) ∧ (mZ k = 0 → Cond.selects (nmC (mI k)) (mY k) (mY k) ∈ lw_tbl) ∧ (mY k).cls = nmC (mI k) ∧ mI k < 13 ∧ plainName (mY k).cls = true ∧ ((mY k).cls ≠ "java/lang/invoke/MethodHandle" ∧ (mY k).cls ≠ "java/lang/invoke/VarHandle") ∧ (parseMethodDescriptor (mY k).desc).map (fun d => d.parameters.length) = some (mN k - (if mZ k = 2 then 0 else 1)) ∧ (mZ k = 1 → (mY k).name = "<init>" ∧ mR k = 0) ∧ mR k ≤ 2 ∧ (mZ k ≠ 2 → 1 ≤ mN k) := by
  have h := mw_all hk
  unfold mwc at h
  simp only [Bool.and_eq_true] at h
  obtain ⟨⟨⟨⟨⟨⟨⟨⟨⟨h1, h2⟩, h3⟩, h4⟩, h5⟩, h6⟩, h7⟩, h8⟩, h9⟩, h10⟩ := h
  refine ⟨fun z => ?_, fun z => ?_, fun z => ?_, of_decide_eq_true h3, of_decide_eq_true h4, h5, of_decide_eq_true h6, of_decide_eq_true h7, of_decide_eq_true h8, of_decide_eq_true h9, of_decide_eq_true h10⟩
  · rw [if_pos z] at h1; exact lwAt_mem h1
  · rw [if_neg z] at h1; exact lwAt_mem h1
  · rw [if_pos z] at h2; exact lwAt_mem h2
theorem asc_ent {ad : Nat → Nat} (n : Nat) : ∀ (As : List PV) (i : Nat), asc ad i (As.flatMap sl2 ++ List.replicate n none) = lv_args i (As.map (trV ad)) := by
  have rep : ∀ (n i : Nat), asc ad i (List.replicate n none) = [] := by
    intro n
    induction n with
    | zero => intro i; rfl
    | succ n ih => intro i; exact ih (i + 1)
  intro As
  induction As with
  | nil => intro i; exact rep n i
  | cons v As ih =>
    intro i
    rw [List.map_cons, lv_args, trV_cat]
    cases hv : isL v with
    | true =>
      have e : (v :: As).flatMap sl2 ++ List.replicate n none = some v :: none :: (As.flatMap sl2 ++ List.replicate n none) := by
        simp [List.flatMap_cons, sl2, hv]
      rw [e, asc, asc, ih]
      rfl
    | false =>
      have e : (v :: As).flatMap sl2 ++ List.replicate n none = some v :: (As.flatMap sl2 ++ List.replicate n none) := by
        simp [List.flatMap_cons, sl2, hv]
      rw [e, asc, ih]
      rfl
theorem sl_len {ad : Nat → Nat} : ∀ (As : List PV), (lg_sl (As.map (trV ad))).length = (As.flatMap sl2).length := by
  intro As
  induction As with
  | nil => rfl
  | cons v As ih =>
    have e1 : lg_sl ((v :: As).map (trV ad)) = (if (trV ad v).category = 2 then [.val (trV ad v), .second] else [.val (trV ad v)]) ++ lg_sl (As.map (trV ad)) := by
      simp [lg_sl, List.flatMap_cons]
    rw [e1, List.length_append, ih, List.flatMap_cons, List.length_append, trV_cat]
    unfold sl2
    cases isL v <;> rfl
theorem ent_mem {k : Nat} {As : List PV} {v : PV} (h : some v ∈ entL k As) : v ∈ As := by
  unfold entL at h
  rcases List.mem_append.mp h with h | h
  · obtain ⟨w, hw, h2⟩ := List.mem_flatMap.mp h
    unfold sl2 at h2
    split at h2
    · simp at h2; rw [h2]; exact hw
    · simp at h2; rw [h2]; exact hw
  · have := List.eq_of_mem_replicate h
    cases this
theorem met_of {f : Nat} (IH : Snd f) {j : Nat} {As : List PV} {S : List Shp} {μ : Mu} {r : Option PV} {M' : Mem} (hj : j < 164) (h : exec f j 0 (entL j As) [] (S, μ, mC j, mS j) = some (r, M')) (hArg : argOk j As S = true) (hOk : ∀ v ∈ As, okV S.length v) (l : Launch) (D : va_G) (ad : Nat → Nat) (cA : Nat → ClassId) (tys : List (ClassId × FieldType)) (sz : Nat) :
    Met l (mY j) (wsK j) (rmK j) (PcM D S μ ad cA tys sz As) (QcM D S μ ad cA sz r M') (mC j) (mS j) (va_A (mkW S μ ad cA) sz) := by
  obtain ⟨-, -, -, h4, -, h6, -, -, h9, -, -⟩ := mw_spec hj
  refine Met.ofW (cc := mB j) (maxL := mL j) (ret := rT (mR j)) h6 rfl ?_
  intro p e s m args below meth c s₁ B hml hv
  obtain ⟨rfl, hsz, hWo, hNW⟩ := hv
  have hts := atoms_spec (ws := wsK j) B.pre
  have hown : s.vm.findClass (nmC (mI j)) = some m.cls := by rw [← h4]; exact findClass_of_methodNamed B.named
  have hin : mZ j = 1 → meth.name = "<init>" := fun z => by rw [(name_of_methodNamed B.named B.method).1]; exact (h9 z).1
  subst hsz
  unfold argOk at hArg
  simp only [Bool.and_eq_true] at hArg
  obtain ⟨⟨a1, a2⟩, -⟩ := hArg
  have a2 : (As.flatMap sl2).length ≤ mL j := of_decide_eq_true a2
  have hl := lv_entry (As.map (trV ad)) (n := mL j) (by rw [sl_len]; exact a2)
  rw [lg_entry_eq]
  generalize hgl : (lg_sl (As.map (trV ad)) ++ List.replicate (mL j - (lg_sl (As.map (trV ad))).length) Slot.unset).toArray = lsR at hl ⊢
  have hFs : Fs ad j S.length (entL j As) [] lsR := by
    refine ⟨?_, ?_, fun v hv => hOk v (ent_mem hv), fun v hv => (by cases hv), fun hn v hv => ?_⟩
    · unfold entL
      rw [asc_ent]
      exact hl
    · unfold entL
      rw [List.length_append, List.length_replicate]
      omega
    · rw [hn] at a1
      have := List.all_eq_true.mp (by simpa using a1 : As.all (fun v => !isL v) = true) v (ent_mem hv)
      simpa using this
  have hX : Fx p s m (As.map (trV ad)).toArray meth c j := ⟨hj, B.exec, B.bytes, B.returns, hml, hown, hts, B.notSynchronized, hin, hNW⟩
  have hres := IH j 0 (entL j As) [] S μ (mC j) (mS j) r M' h (l := l) (e := e) (below := below) (Qc := QcM D S μ ad cA s.heap.size r M') (free := va_A (mkW S μ ad cA) s.heap.size)
    (⟨hX, ⟨hWo.1, hWo.2.1, hWo.2.2.1.self, hWo.2.2.2⟩, va_S.rf, fun q hq => Or.inr hq, hFs, Nat.le_refl _, Nat.le_refl _⟩ : Hyp p s m (As.map (trV ad)).toArray meth c s.heap [] j D S μ ad cA tys (va_A (mkW S μ ad cA) s.heap.size) (entL j As) [] lsR (mC j) (mS j)) (fun _ h => h)
    (fun ad' cA' tys' H' locs' hag hlen hWo' hS' hr t ht hW => ⟨⟨ad', cA', tys', hag, hlen, rfl, ⟨va_K.moved hW.alike hWo'.1, by rw [ht]; exact hWo'.2.1, hWo'.2.2⟩, hr⟩, hS'.F ht⟩)
  rw [Nat.sub_self, Nat.sub_self] at hres
  exact hres
section CALL
variable {p : Program} {l : Launch} {e : Env} {s : State} {m : MethodId} {args : Array Value} {below : List Frame} {meth : Method} {c : Code} {H : Heap} {locs : List Loc} {Q : State → Prop} {k pc : Nat} {D : va_G} {S : List Shp} {μ : Mu} {ad : Nat → Nat} {cA : Nat → ClassId} {tys : List (ClassId × FieldType)} {A : Nat → Prop} {ls : Lo} {st : List PV} {lsR : Array Slot} {rc rs : Nat}
theorem callg {R : Room} {mc ms cells slots : Nat} {lsR : Array Slot} {st0 rest : List Value} {Qa : State → Outcome → State → Prop} {free : Addr → Prop} (hr : va_Run p l e R s m args below meth c H locs cells slots mc ms (F0 m pc lsR st0) rest Qa free)
    (kk : ∀ (v : Option Value) (st₀ t : State) (H1 : Heap) (L : List Loc), st₀.heap = H → t.heap = H1 → s.vm.Alike t.vm → Qa st₀ (.returned v) t → (∀ q ∈ L, free q.base) → W p l e R s m args below meth c H1 (locs ++ L) (cells + mc) (slots + ms) Q (F0 m (pc + 3) lsR (v.toList ++ rest))) : W p l e R s m args below meth c H locs cells slots Q (F0 m pc lsR st0) := by
  intro T hT X
  obtain ⟨v, st₀, t, T', L, h0, X', hL, e1, e2, hq, st⟩ := hr T hT X
  obtain ⟨t2, a1, b1⟩ := kk v st₀ t T'.heap L h0 e1.symm (by rw [← e2]; exact X'.warmed.alike) hq hL T' rfl X'
  exact ⟨t2, st t2 a1, b1⟩
/-- behind a call -/
theorem call_back {j : Nat} {As rest : List PV} {r1 : Option PV} {M1 : Mem} (h : Hyp p s m args meth c H locs k D S μ ad cA tys A ls (As.reverse ++ rest) lsR rc rs) (hmc : mC j ≤ rc) (hms : mS j ≤ rs) {a : Array Value} {st0 : List Value} (hr : va_Run p l e (rmK k) s m args below meth c H locs (mC k - rc) (mS k - rs) (mC j) (mS j) (F0 m pc lsR st0) (rest.map (trV ad)) (QcM D S μ ad cA H.size r1 M1 a) (va_A (mkW S μ ad cA) H.size))
    (kk : Cn p l e s m args below meth c Q k D A S.length ad cA (pc + 3) ls (r1.toList ++ rest) (M1.1, M1.2.1, rc - mC j, rs - mS j)) : W p l e (rmK k) s m args below meth c H locs (mC k - rc) (mS k - rs) Q (F0 m pc lsR st0) := by
  obtain ⟨hX, hWo, hS, hA, hF, hrc, hrs⟩ := h
  have hFA : ∀ q, va_A (mkW S μ ad cA) H.size q → A q := by
    intro q hq
    rcases hq with ⟨i, ee, hi⟩ | hq
    · exact hWo.2.2.1.2 i (q, ee) hi
    · exact hA q (Nat.le_trans hS.1 hq)
  refine callg hr (fun v st₀ t H1 L h0 h1 hvm hq hL => ?_)
  obtain ⟨⟨ad', cA', tys', hag, hlen, hv, hWo', hok⟩, hz, hk⟩ := hq
  cases hv
  subst h1
  rw [h0] at hz hk
  have hWo2 : Wo D M1.1 M1.2.1 ad' cA' tys' A s t.heap := ⟨va_K.moved hvm.symm hWo'.1, hWo'.2.1, hWo'.2.2.1.weaken (fun _ q _ hq => hFA q.1 hq), hWo'.2.2.2⟩
  have hS2 : va_S A s.heap t.heap (locs ++ L) := ⟨Nat.le_trans hS.1 hz, fun q h1 h2 => by rw [hk q (Nat.lt_of_lt_of_le h1 hS.1) (fun z => h2 (hFA q z))]; exact hS.2.1 q h1 h2, fun q hq => by
    rcases List.mem_append.mp hq with h | h
    · exact hS.2.2 q h
    · exact hFA _ (hL q h)⟩
  have hrest : ∀ v ∈ rest, okV S.length v := fun v hv => hF.2.2.2.1 v (by simp [hv])
  have hst : (r1.toList ++ rest).map (trV ad') = (r1.map (trV ad')).toList ++ rest.map (trV ad) := by
    rw [List.map_append, map_ag (fun x hx => (hag x hx).1) hrest]
    cases r1 <;> rfl
  have := kk ad' cA' tys' t.heap (locs ++ L) lsR hag hlen hWo2 hS2 (hF.ag (fun x hx => (hag x hx).1) hlen (fun v hv => by
    rcases List.mem_append.mp hv with h | h
    · exact hok v (by cases r1 <;> simp_all)
    · exact okV_mono hlen (hrest v h))) (by show rc - mC j ≤ mC k; omega) (by show rs - mS j ≤ mS k; omega)
  rw [hst] at this
  have e1 : mC k - rc + mC j = mC k - (rc - mC j) := by omega
  have e2 : mS k - rs + mS j = mS k - (rs - mS j) := by omega
  rw [e1, e2]
  exact this
theorem pcm_at (hWo : Wo D S μ ad cA tys A s H) (hN : NWs s) {As : List PV} {U : State} (hU : U.heap = H) (hW : s.WarmedH U.vm) : PcM D S μ ad cA tys H.size As (As.map (trV ad)).toArray U :=
  ⟨rfl, by rw [hU], ⟨va_K.moved hW.alike hWo.1, by rw [hU]; exact hWo.2.1, hWo.2.2.1.weaken (fun _ _ _ _ => trivial), hWo.2.2.2⟩, hN.warm hW⟩
theorem gi_app {big : List Cond} {a b : List Cond} (ha : ∀ w ∈ a, w ∈ big ∧ goodWord w = true) (hb : GoodIn big b) : GoodIn big (a ++ b) := by
  intro w hw
  rcases List.mem_append.mp hw with h | h
  · exact ⟨(ha w h).1, good_of_word (ha w h).2⟩
  · exact hb w h
theorem call_snd {f : Nat} (IH : Snd f) {j i b : Nat} {As rest : List PV} {ins : Instr} {r1 : Option PV} {M1 : Mem} (h : Hyp p s m args meth c H locs k D S μ ad cA tys A ls (As.reverse ++ rest) lsR rc rs) (hd : decode (mB k) pc = .ok (ins, 3))
    (hb : (ins = .invokevirtual i ∧ b = 3) ∨ (ins = .invokestatic i ∧ (b = 4 ∨ b = 5)) ∨ (ins = .invokespecial i ∧ (b = 6 ∨ b = 7)))
    (hm : MK.any (fun q => q.1 == mI k && q.2.1 == i && q.2.2.1 == b && q.2.2.2.1 == j) = true) (hR : mF j + 1 ≤ mF k ∧ 8 + (mL j + 11) + mO j ≤ mO k)
    (hn : As.length = mN j) (hlr : rest.length ≤ 4) (hArg : argOk j As S = true) (hmc : mC j ≤ rc) (hms : mS j ≤ rs) (h1 : exec f j 0 (entL j As) [] (S, μ, mC j, mS j) = some (r1, M1))
    (kk : Cn p l e s m args below meth c Q k D A S.length ad cA (pc + 3) ls (r1.toList ++ rest) (M1.1, M1.2.1, rc - mC j, rs - mS j)) : W p l e (rmK k) s m args below meth c H locs (mC k - rc) (mS k - rs) Q (F0 m pc lsR ((As.reverse ++ rest).map (trV ad))) := by
  have h0 := h
  obtain ⟨hX, hWo, hS, hA, hF, hrc, hrs⟩ := h
  obtain ⟨z, hz, hz1, hz2, hz3, hz4, hz5⟩ := any_mk hm
  have hj : j < 164 := by
    unfold mkc at hz5
    rw [hz3, hz4] at hz5
    rcases hb with ⟨-, rfl⟩ | ⟨-, rfl | rfl⟩ | ⟨-, rfl | rfl⟩ <;>
    · simp only [Bool.and_eq_true, decide_eq_true_eq] at hz5
      exact hz5.2.1
  obtain ⟨w1, w2, w3, w4, w5, w6, w7, w8, w9, w10, w11⟩ := mw_spec hj
  have hOk : ∀ v ∈ As, okV S.length v := fun v hv => hF.2.2.2.1 v (by simp [hv])
  have hM := met_of IH hj h1 hArg hOk l D ad cA tys H.size
  have hfix : CallFix p m c (mB k) (mL k) s args (wsK k) (nmC (mI k)) := ⟨hX.2.1, hX.2.2.1, hX.2.2.2.2.1, hX.2.2.2.2.2.1, hX.2.2.2.2.2.2.1⟩
  have hroom : 2 * (F0 m pc lsR ((As.reverse ++ rest).map (trV ad))).monitorRoom + ((rest.map (trV ad)).map fun v => v.category).sum ≤ 8 := by
    have := cat_sum (ad := ad) rest 4 hlr
    exact lv_room (by omega)
  have hfit : mC k - rc + mC j ≤ (rmK k).cells ∧ mS k - rs + mS j ≤ (rmK k).slots := ⟨by show _ ≤ mC k; omega, by show _ ≤ mS k; omega⟩
  have hini : Cond.initialized (nmC (mI j)) ∈ lw_tbl := ini_all w5
  have hinT : Cond.initialized (nmC (mI j)) ∈ wsK k := tw_in k _ (tw_mem hini rfl)
  have hgi : GoodIn (wsK k) (wsK j) := good_in (tw_in k) hj
  have hstk : (As.reverse ++ rest).map (trV ad) = (As.map (trV ad)).reverse ++ rest.map (trV ad) := by rw [List.map_append, List.map_reverse]
  refine call_back h0 hmc hms (a := (As.map (trV ad)).toArray) ?_ kk
  rw [hstk] at hroom ⊢
  unfold mkc at hz5
  rw [hz3, hz4, hz1, hz2] at hz5
  -- the receiver
  have recv : mZ j ≠ 2 → ∃ (q : Nat) (A2 : List PV) (ci : Nat) (fs : List (Option (Option Nat))), As = vR q :: A2 ∧ S[q]? = some (.inr (ci, fs)) ∧ ci = mI j := by
    intro hz2
    unfold argOk at hArg
    simp only [Bool.and_eq_true, Bool.or_eq_true, beq_iff_eq] at hArg
    have h3 := hArg.2
    rcases h3 with h3 | h3
    · exact absurd h3 hz2
    · split at h3
      · rename_i q A2
        split at h3
        · rename_i ci fs hq
          exact ⟨q, A2, ci, fs, rfl, hq, by simpa using h3⟩
        · cases h3
      · cases h3
  rcases hb with ⟨rfl, rfl⟩ | ⟨rfl, hb⟩ | ⟨rfl, hb⟩
  · simp only [Bool.and_eq_true, decide_eq_true_eq] at hz5
    have hZ : mZ j = 0 := hz5.2.2
    obtain ⟨q, A2, ci, fs, rfl, hq, rfl⟩ := recv (by rw [hZ]; decide)
    have hlk := lwAt_mem hz5.1
    have hdn : (parseMethodDescriptor (mY j).desc).map (fun d => d.parameters.length) = some A2.length := by
      rw [w8, hZ, ← hn]; rfl
    have hG : GoodIn (wsK k) (wsV (nmC (mI k)) i (nmC (mI j)) (mY j) (wsK j)) := gi_app (fun w hw => by
      simp only [List.mem_cons, List.not_mem_nil, or_false] at hw
      rcases hw with rfl | rfl | rfl | rfl
      · exact ⟨tw_in k _ (tw_mem hlk rfl), rfl⟩
      · exact ⟨tw_in k _ (tw_mem (w2 (by rw [hZ]; decide)) rfl), rfl⟩
      · exact ⟨tw_in k _ (tw_mem (w3 hZ) rfl), rfl⟩
      · exact ⟨hinT, rfl⟩) hgi
    exact va_runV (As := A2.map (trV ad)) (b := ad q) (rest := rest.map (trV ad)) (C := nmC (mI j)) hfix hM (cwV A2.length hX.2.2.2.2.2.2.1 hG rfl rfl rfl ⟨w4, w7.1, w7.2, hdn⟩ hR)
      ⟨PcM.blind, va_recv hWo.1 hWo.2.1 (cls_at w5) (mkW_at hq), fun U hU hW => pcm_at hWo hX.2.2.2.2.2.2.2.2.2 hU hW⟩ rfl (by rw [List.length_map]) hF.1.1 (by simp [trV]) hroom hd hfit
  · rcases hb with rfl | rfl
    · simp only [Bool.and_eq_true, decide_eq_true_eq] at hz5
      have hZ : mZ j = 2 := hz5.2.2.1
      have hlk := lwAt_mem hz5.1
      have hcl : (mY j).cls = nmC (mI k) := by rw [w4, hz5.2.2.2]
      have hdn : (parseMethodDescriptor (mY j).desc).map (fun d => d.parameters.length) = some As.length := by
        rw [w8, hZ, hn]; rfl
      have hG : GoodIn (wsK k) (wsS (nmC (mI k)) i (mY j) (wsK j)) := gi_app (fun w hw => by
        simp only [List.mem_cons, List.not_mem_nil, or_false] at hw
        rcases hw with rfl | rfl | rfl
        · exact ⟨tw_in k _ (tw_mem hlk rfl), rfl⟩
        · exact ⟨tw_in k _ (tw_mem (w1 hZ) rfl), rfl⟩
        · rw [← hz5.2.2.2]; exact ⟨hinT, rfl⟩) hgi
      exact va_runS (As := As.map (trV ad)) (rest := rest.map (trV ad)) hfix hM (cwS As.length hX.2.2.2.2.2.2.1 hG rfl rfl rfl ⟨hcl, w7.1, w7.2, hdn⟩ hR)
        ⟨PcM.blind, fun U hU hW => pcm_at hWo hX.2.2.2.2.2.2.2.2.2 hU hW⟩ rfl (by rw [List.length_map]) hF.1.1 rfl hroom hd hfit
    · simp only [Bool.and_eq_true, decide_eq_true_eq] at hz5
      have hZ : mZ j = 2 := hz5.2.2
      have hdn : (parseMethodDescriptor (mY j).desc).map (fun d => d.parameters.length) = some As.length := by
        rw [w8, hZ, hn]; rfl
      have hnw := hX.2.2.2.2.2.2.2.2.2 z hz (by rw [hz3]; exact Or.inl rfl)
      rw [hz1, hz2, hz4] at hnw
      exact va_runSN (As := As.map (trV ad)) (rest := rest.map (trV ad)) (host := RX11) hfix hM ⟨va_cnB As.length hX.2.2.2.2.2.2.1 hgi rfl rfl rfl hnw (by rw [w4]; exact hX.w hini rfl) ⟨w7.1, w7.2, hdn⟩ hR, hX.w (w1 hZ) rfl, trivial⟩
        ⟨PcM.blind, fun U hU hW => pcm_at hWo hX.2.2.2.2.2.2.2.2.2 hU hW⟩ rfl (by rw [List.length_map]) hF.1.1 rfl hroom hd hfit
  · rcases hb with rfl | rfl
    · simp only [Bool.and_eq_true, decide_eq_true_eq] at hz5
      have hZ : mZ j = 1 := hz5.2.2
      obtain ⟨q, A2, ci, fs, rfl, hq, rfl⟩ := recv (by rw [hZ]; decide)
      have hlk := lwAt_mem hz5.1
      have hr0 : rT (mR j) = none := by rw [(w9 hZ).2]; rfl
      have hdn : (parseMethodDescriptor (mY j).desc).map (fun d => d.parameters.length) = some A2.length := by
        rw [w8, hZ, ← hn]; rfl
      exact va_runI (As := A2.map (trV ad)) (b := ad q) (rest := rest.map (trV ad)) hfix hM (cwI (bytes := mB j) (maxL := mL j) (ws' := TW) A2.length hX.2.2.2.2.2.2.1 hgi (by rw [← hr0]; rfl) rfl rfl (by rw [w4]; exact hX.w hini rfl) (hX.w hlk rfl) (hX.w (w2 (by rw [hZ]; decide)) rfl) (w9 hZ).1 ⟨w7.1, w7.2, hdn⟩ hR)
        ⟨PcM.blind, fun U hU hW => pcm_at hWo hX.2.2.2.2.2.2.2.2.2 hU hW⟩ rfl (by rw [List.length_map]) hF.1.1 (by simp [trV]) hroom hd hfit
    · simp only [Bool.and_eq_true, decide_eq_true_eq] at hz5
      have hZ : mZ j = 1 := hz5.2.2
      obtain ⟨q, A2, ci, fs, rfl, hq, rfl⟩ := recv (by rw [hZ]; decide)
      have hr0 : rT (mR j) = none := by rw [(w9 hZ).2]; rfl
      have hdn : (parseMethodDescriptor (mY j).desc).map (fun d => d.parameters.length) = some A2.length := by
        rw [w8, hZ, ← hn]; rfl
      have hnw := hX.2.2.2.2.2.2.2.2.2 z hz (by rw [hz3]; exact Or.inr rfl)
      rw [hz1, hz2, hz4] at hnw
      exact va_runIN (As := A2.map (trV ad)) (b := ad q) (rest := rest.map (trV ad)) (host := RX11) hfix hM ⟨va_cnB (bytes := mB j) (maxL := mL j) (ws' := TW) A2.length hX.2.2.2.2.2.2.1 hgi (by rw [← hr0]; rfl) rfl rfl hnw (by rw [w4]; exact hX.w hini rfl) ⟨w7.1, w7.2, hdn⟩ hR, (w9 hZ).1, hX.w (w2 (by rw [hZ]; decide)) rfl⟩
        ⟨PcM.blind, fun U hU hW => pcm_at hWo hX.2.2.2.2.2.2.2.2.2 hU hW⟩ rfl (by rw [List.length_map]) hF.1.1 (by simp [trV]) hroom hd hfit
end CALL
end
section
/-! THE PURE MACHINE IS SOUND: what it comes to, the machine comes to -/
theorem code_at {k pc : Nat} {en : En} (hk : k < 164) (h : cdAt k pc = some en) : ∃ len, decode (mB k) pc = .ok (en.1, len) ∧ okI k pc len en = true := by
  have h1 : (CD.getD k [])[pc]? = some (some en) := by
    unfold cdAt at h
    rw [List.getD_eq_getElem?_getD] at h
    cases hj : (CD.getD k [])[pc]? with
    | none => rw [hj] at h; cases h
    | some o => rw [hj] at h; exact congrArg some h
  have h2 := om_a164 k hk
  unfold okM at h2
  have h3 := List.all_eq_true.mp h2 (some en, pc) (List.mem_zipIdx_iff_getElem?.mpr h1)
  dsimp only at h3
  unfold okE at h3
  split at h3
  · rename_i i len hd
    rw [Bool.and_eq_true] at h3
    exact ⟨len, by rw [hd, of_decide_eq_true h3.1], h3.2⟩
  · cases h3
theorem cn_of {f : Nat} (IH : Snd f) {k pc' : Nat} {ls' : Lo} {st' : List PV} {M2 M' : Mem} {r : Option PV} (h : exec f k pc' ls' st' M2 = some (r, M'))
    {p : Program} {l : Launch} {e : Env} {s : State} {m : MethodId} {args : Array Value} {below : List Frame} {meth : Method} {c : Code} {D : va_G} {S : List Shp} {ad : Nat → Nat} {cA : Nat → ClassId} {A : Nat → Prop} {Qc : Array Value → State → Outcome → State → Prop} {free : Addr → Prop}
    (hX : Fx p s m args meth c k) (hA : ∀ q, s.heap.size ≤ q → A q) (hfree : ∀ q, A q → free q)
    (hQ : ∀ (ad' : Nat → Nat) (cA' : Nat → ClassId) (tys' : List (ClassId × FieldType)) (H' : Heap) (locs' : List Loc), (∀ x, x < S.length → ad' x = ad x ∧ cA' x = cA x) → S.length ≤ M'.1.length → Wo D M'.1 M'.2.1 ad' cA' tys' A s H' → va_S A s.heap H' locs' → (∀ v, r = some v → okV M'.1.length v) → ∀ t : State, t.heap = H' → s.WarmedH t.vm → Qc args s (.returned (r.map (trV ad'))) t) :
    Cn p l e s m args below meth c (MQ below Qc args s (mC k) (mS k) free) k D A S.length ad cA pc' ls' st' M2 := by
  intro ad1 cA1 tys1 H1 locs1 lsR1 hag hlen hWo hS hF hrc hrs
  obtain ⟨S2, μ2, rc2, rs2⟩ := M2
  exact IH k pc' ls' st' S2 μ2 rc2 rs2 r M' h ⟨hX, hWo, hS, hA, hF, hrc, hrs⟩ hfree (fun ad2 cA2 tys2 H2 locs2 hag2 hlen2 hWo2 hS2 hr2 => hQ ad2 cA2 tys2 H2 locs2 (fun x hx => ⟨((hag2 x (Nat.lt_of_lt_of_le hx hlen)).1).trans (hag x hx).1, ((hag2 x (Nat.lt_of_lt_of_le hx hlen)).2).trans (hag x hx).2⟩) (Nat.le_trans hlen hlen2) hWo2 hS2 hr2)
set_option maxHeartbeats 1000000 in
theorem snd_all : ∀ f, Snd f := by
  intro f
  induction f with
  | zero =>
    intro k pc ls st S μ rc rs r M' h
    have h2 : (none : Option (Option PV × Mem)) = some (r, M') := h
    cases h2
  | succ f IH =>
    intro k pc ls st S μ rc rs r M' h p l e s m args below meth c H locs D ad cA tys A lsR Qc free hy hfree hQ
    have hy0 := hy
    obtain ⟨hX, hWo, hS, hA, hF, hrc, hrs⟩ := hy
    unfold exec at h
    cases hc : cdAt k pc with
    | none => rw [hc] at h; cases h
    | some en =>
      rw [hc] at h
      dsimp only at h
      obtain ⟨len, hd, hok⟩ := code_at hX.1 hc
      obtain ⟨ins, nx, cv, a, b, tg⟩ := en
      dsimp only at h
      by_cases hret : ins = .return_
      · subst hret
        dsimp only at h
        split at h
        · rename_i hq
          obtain ⟨hq1, rfl⟩ := hq
          cases h
          unfold okI at hok
          dsimp only at hok
          have hlen : len = 1 := by simpa using hok
          subst hlen
          refine W.widen (k := mC k) (n := mS k) (Nat.sub_le _ _) (Nat.sub_le _ _) ?_
          exact W.vret hX.2.1 hX.2.2.1 (by rw [hX.2.2.2.1, hq1]; rfl) (fun t ht hW => hQ ad cA tys H locs (fun _ _ => ⟨rfl, rfl⟩) (Nat.le_refl _) hWo hS (fun v hv => by cases hv) t ht hW) (fun q hq => hfree _ (hS.2.2 q hq)) hd hX.2.2.2.2.2.2.2.1
        · cases h
      · by_cases hir : ins = .ireturn
        · subst hir
          dsimp only at h
          split at h
          · rename_i x
            split at h
            · rename_i hq
              cases h
              unfold okI at hok
              dsimp only at hok
              have hlen : len = 1 := by simpa using hok
              subst hlen
              have hx : iR x := hF.2.2.2.1 (vI x) (by simp)
              refine W.widen (k := mC k) (n := mS k) (Nat.sub_le _ _) (Nat.sub_le _ _) ?_
              have hfin : ∀ t : State, t.heap = H → s.WarmedH t.vm → Qc args s (.returned (some (.int (oI x)))) t := fun t ht hW => hQ ad cA tys H locs (fun _ _ => ⟨rfl, rfl⟩) (Nat.le_refl _) hWo hS (fun v hv => by cases hv; exact hx) t ht hW
              rcases hq with hq | ⟨hq, hb⟩
              · exact W.zret (ty := .int) (v := oI x) hX.2.1 hX.2.2.1 (by rw [hX.2.2.2.1, hq]; rfl) rfl hfin (fun q hq => hfree _ (hS.2.2 q hq)) hd hX.2.2.2.2.2.2.2.1
              · exact W.zret (ty := .boolean) (v := oI x) hX.2.1 hX.2.2.1 (by rw [hX.2.2.2.1, hq]; rfl) (by show Value.int (oI x &&& 1) = _; rw [oI_bit hb]) hfin (fun q hq => hfree _ (hS.2.2 q hq)) hd hX.2.2.2.2.2.2.2.1
            · cases h
          · cases h
        · have hh : (match cee (ins, nx, cv, a, b, tg) with
              | some j => if mN j ≤ st.length ∧ (st.drop (mN j)).length ≤ 4 ∧ argOk j (st.take (mN j)).reverse S = true ∧ mC j ≤ rc ∧ mS j ≤ rs then
                  (match exec f j 0 (entL j (st.take (mN j)).reverse) [] (S, μ, mC j, mS j) with
                    | some (r, M') => exec f k nx ls (r.toList ++ st.drop (mN j)) (M'.1, M'.2.1, rc - mC j, rs - mS j)
                    | none => none)
                else none
              | none => match stp (ins, nx, cv, a, b, tg) ls st (S, μ, rc, rs) with
                | some (pc', ls', st', M') => exec f k pc' ls' st' M'
                | none => none) = some (r, M') := by
            cases ins
            case return_ => exact absurd rfl hret
            case ireturn => exact absurd rfl hir
            all_goals exact h
          clear h
          cases hcee : cee (ins, nx, cv, a, b, tg) with
          | none =>
            rw [hcee] at hh
            dsimp only at hh
            cases hst : stp (ins, nx, cv, a, b, tg) ls st (S, μ, rc, rs) with
            | none => rw [hst] at hh; cases hh
            | some q =>
              obtain ⟨pc', ls', st', M2⟩ := q
              rw [hst] at hh
              dsimp only at hh
              exact stp_snd hy0 hd hok hst (cn_of IH hh hX hA hfree hQ)
          | some j =>
            rw [hcee] at hh
            dsimp only at hh
            split at hh
            · rename_i hq
              obtain ⟨q1, q2, q3, q4, q5⟩ := hq
              cases hex : exec f j 0 (entL j (st.take (mN j)).reverse) [] (S, μ, mC j, mS j) with
              | none => rw [hex] at hh; cases hh
              | some q =>
                obtain ⟨r1, M1⟩ := q
                rw [hex] at hh
                dsimp only at hh
                have hsplit : st = ((st.take (mN j)).reverse).reverse ++ st.drop (mN j) := by rw [List.reverse_reverse, List.take_append_drop]
                generalize hAs : (st.take (mN j)).reverse = As at *
                generalize hre : st.drop (mN j) = rest at *
                have hlen : As.length = mN j := by rw [← hAs, List.length_reverse, List.length_take]; omega
                subst hsplit
                have key : ∃ i, ((ins = .invokevirtual i ∧ b = 3) ∨ (ins = .invokestatic i ∧ (b = 4 ∨ b = 5)) ∨ (ins = .invokespecial i ∧ (b = 6 ∨ b = 7))) ∧ MK.any (fun q => q.1 == mI k && q.2.1 == i && q.2.2.1 == b && q.2.2.2.1 == j) = true ∧ (mF j + 1 ≤ mF k ∧ 8 + (mL j + 11) + mO j ≤ mO k) ∧ len = 3 ∧ nx = pc + 3 := by
                  cases ins
                  case invokevirtual i =>
                    unfold cee at hcee
                    dsimp only at hcee
                    split at hcee
                    · cases hcee
                      unfold okI at hok
                      dsimp only at hok
                      simp only [Bool.and_eq_true, beq_iff_eq, decide_eq_true_eq] at hok
                      obtain ⟨⟨⟨⟨rfl, rfl⟩, rfl⟩, hm⟩, hR⟩ := hok
                      exact ⟨i, Or.inl ⟨rfl, rfl⟩, hm, hR, rfl, rfl⟩
                    · cases hcee
                  case invokestatic i =>
                    unfold cee at hcee
                    dsimp only at hcee
                    split at hcee
                    · rename_i hb3
                      cases hcee
                      unfold okI at hok
                      dsimp only at hok
                      simp only [Bool.and_eq_true, beq_iff_eq] at hok
                      obtain ⟨⟨⟨rfl, rfl⟩, hm⟩, hR⟩ := hok
                      rw [if_neg (by omega), if_neg (by omega)] at hR
                      simp only [Bool.and_eq_true, Bool.or_eq_true, beq_iff_eq, decide_eq_true_eq] at hR
                      exact ⟨i, Or.inr (Or.inl ⟨rfl, hR.1⟩), hm, hR.2, rfl, rfl⟩
                    · cases hcee
                  case invokespecial i =>
                    unfold cee at hcee
                    dsimp only at hcee
                    split at hcee
                    · rename_i hb3
                      cases hcee
                      unfold okI at hok
                      dsimp only at hok
                      simp only [Bool.and_eq_true, beq_iff_eq] at hok
                      obtain ⟨⟨⟨rfl, rfl⟩, hm⟩, hR⟩ := hok
                      rw [if_neg (by omega)] at hR
                      simp only [Bool.and_eq_true, Bool.or_eq_true, beq_iff_eq, decide_eq_true_eq] at hR
                      exact ⟨i, Or.inr (Or.inr ⟨rfl, hR.1⟩), hm, hR.2, rfl, rfl⟩
                    · cases hcee
                  all_goals (have h9 : (none : Option Nat) = some j := hcee; cases h9)
                obtain ⟨i, hb, hm, hR, rfl, rfl⟩ := key
                exact call_snd IH hy0 hd hb hm hR hlen q2 q3 q4 q5 hex (cn_of IH hh hX hA hfree hQ)
            · cases hh
/-- a method's contract, out of its run -/
theorem met_run {f j : Nat} {As : List PV} {S : List Shp} {μ : Mu} {r : Option PV} {M' : Mem} (hj : j < 164) (h : exec f j 0 (entL j As) [] (S, μ, mC j, mS j) = some (r, M')) (hArg : argOk j As S = true) (hOk : ∀ v ∈ As, okV S.length v) (l : Launch) (D : va_G) (ad : Nat → Nat) (cA : Nat → ClassId) (tys : List (ClassId × FieldType)) (sz : Nat) :
    Met l (mY j) (wsK j) (rmK j) (PcM D S μ ad cA tys sz As) (QcM D S μ ad cA sz r M') (mC j) (mS j) (va_A (mkW S μ ad cA) sz) := met_of (snd_all f) hj h hArg hOk l D ad cA tys sz
end
section
/-! WEAKEST PRECONDITIONS over the pure machine, once both objects are made: the shapes stay, the contents change -/
def SH : List Shp := [.inr (11, [some (some 1), some (some 3), some (some 4), some (some 8), some (some 12), some (some 30), some (some 31), some (some 32), some (some 36), some (some 40), some (some 42), some (some 46)]), .inr (9, [some (some 2), none]), .inl (false, 120), .inr (5, [none]), .inr (6, [none, some (some 5), some (some 6), some (some 7)]), .inl (false, 16), .inl (false, 8), .inl (false, 64), .inr (6, [none, some (some 9), some (some 10), some (some 11)]), .inl (false, 16), .inl (false, 8), .inl (false, 64), .inr (4, [some (some 13), some (some 19), some (some 25), some (some 28)]), .inr (3, [none, some (some 14), some (some 15), some (some 16), some (some 17), some (some 18)]), .inl (false, 8), .inl (false, 64), .inl (false, 8), .inl (false, 8), .inl (false, 81), .inr (3, [none, some (some 20), some (some 21), some (some 22), some (some 23), some (some 24)]), .inl (false, 8), .inl (false, 64), .inl (false, 8), .inl (false, 8), .inl (false, 81), .inr (2, [some (some 26), some (some 27)]), .inl (false, 64), .inl (false, 64), .inr (1, [some (some 29)]), .inl (false, 64), .inr (7, [none, none, none]), .inr (7, [none, none, none]), .inr (10, [some (some 33), some (some 34), some (some 35)]), .inl (false, 64), .inl (false, 64), .inl (false, 64), .inr (10, [some (some 37), some (some 38), some (some 39)]), .inl (false, 64), .inl (false, 64), .inl (false, 64), .inr (0, [some (some 41), none]), .inl (false, 10), .inr (8, [some (some 43), some (some 44), some (some 45), none]), .inl (false, 6), .inl (false, 6), .inl (true, 6), .inl (false, 2), .inr (12, [none, some (some 48), some (some 49), some (some 50), some (some 51), some (some 52), some (some 53), some (some 54), none, some (some 55), none, none, none, none, none, none, none, some (some 56), some (some 57), some (some 58), some (some 59), some (some 60), some (some 61), some (some 62), none, some (some 63), some (some 64)]), .inl (false, 8), .inl (false, 16), .inl (false, 64), .inl (false, 128), .inl (false, 64), .inl (false, 3), .inl (false, 30), .inl (false, 120), .inl (false, 8), .inl (false, 16), .inl (false, 64), .inl (false, 81), .inl (false, 64), .inl (false, 64), .inl (false, 24), .inl (false, 6), .inl (true, 2)]
abbrev Po : Type := Option PV → Mu → Prop
def Wp (k pc : Nat) (ls : Lo) (st : List PV) (μ : Mu) (R : Po) : Prop := ∃ (f : Nat) (r : Option PV) (μ' : Mu), exec f k pc ls st (SH, μ, 0, 0) = some (r, (SH, μ', 0, 0)) ∧ R r μ'
def callOk (j : Nat) (st : List PV) : Bool := decide (mN j ≤ st.length) && decide ((st.drop (mN j)).length ≤ 4) && argOk j (st.take (mN j)).reverse SH && mC j == 0 && mS j == 0
/-- one instruction -/
def wst (k : Nat) (e : En) (ls : Lo) (st : List PV) (μ : Mu) (R : Po) (K : Nat → Lo → List PV → Mu → Prop) : Prop := match e.1 with
  | .iconst _ => K e.2.1 ls (vI e.2.2.1 :: st) μ
  | .bipush _ => K e.2.1 ls (vI e.2.2.1 :: st) μ
  | .sipush _ => K e.2.1 ls (vI e.2.2.1 :: st) μ
  | .lconst _ => K e.2.1 ls (vL e.2.2.1 :: st) μ
  | .ldc2_w _ => K e.2.1 ls (vL e.2.2.1 :: st) μ
  | .iload _ => match ls.getD e.2.2.2.1 none with
    | some (.inl x) => K e.2.1 ls (vI x :: st) μ
    | _ => False
  | .iload_n _ => match ls.getD e.2.2.2.1 none with
    | some (.inl x) => K e.2.1 ls (vI x :: st) μ
    | _ => False
  | .lload _ => match ls.getD e.2.2.2.1 none with
    | some (.inr (.inl x)) => K e.2.1 ls (vL x :: st) μ
    | _ => False
  | .lload_n _ => match ls.getD e.2.2.2.1 none with
    | some (.inr (.inl x)) => K e.2.1 ls (vL x :: st) μ
    | _ => False
  | .aload _ => match ls.getD e.2.2.2.1 none with
    | some (.inr (.inr x)) => K e.2.1 ls (vR x :: st) μ
    | _ => False
  | .aload_n _ => match ls.getD e.2.2.2.1 none with
    | some (.inr (.inr x)) => K e.2.1 ls (vR x :: st) μ
    | _ => False
  | .istore _ => match st with
    | .inl x :: st' => K e.2.1 (ls.set e.2.2.2.1 (some (vI x))) st' μ
    | _ => False
  | .istore_n _ => match st with
    | .inl x :: st' => K e.2.1 (ls.set e.2.2.2.1 (some (vI x))) st' μ
    | _ => False
  | .iinc _ _ => match ls.getD e.2.2.2.1 none with
    | some (.inl x) => iR (x + e.2.2.1) ∧ K e.2.1 (ls.set e.2.2.2.1 (some (vI (x + e.2.2.1)))) st μ
    | _ => False
  | .iadd => match st with
    | .inl y :: .inl x :: st' => iR (x + y) ∧ K e.2.1 ls (vI (x + y) :: st') μ
    | _ => False
  | .isub => match st with
    | .inl y :: .inl x :: st' => iR (x - y) ∧ K e.2.1 ls (vI (x - y) :: st') μ
    | _ => False
  | .imul => match st with
    | .inl y :: .inl x :: st' => iR (x * y) ∧ K e.2.1 ls (vI (x * y) :: st') μ
    | _ => False
  | .idiv => match st with
    | .inl y :: .inl x :: st' => (0 ≤ x ∧ 0 < y) ∧ K e.2.1 ls (vI (x / y) :: st') μ
    | _ => False
  | .irem => match st with
    | .inl y :: .inl x :: st' => (0 ≤ x ∧ 0 < y) ∧ K e.2.1 ls (vI (x % y) :: st') μ
    | _ => False
  | .ishl => match st with
    | .inl y :: .inl x :: st' => (0 ≤ x ∧ 0 ≤ y ∧ y < 31 ∧ x * 2 ^ y.toNat ≤ 2147483647) ∧ K e.2.1 ls (vI (x * 2 ^ y.toNat) :: st') μ
    | _ => False
  | .ishr => match st with
    | .inl y :: .inl x :: st' => (0 ≤ x ∧ 0 ≤ y ∧ y < 31) ∧ K e.2.1 ls (vI (x / 2 ^ y.toNat) :: st') μ
    | _ => False
  | .iand => match st with
    | .inl y :: .inl x :: st' => (0 ≤ x ∧ 0 ≤ y) ∧ K e.2.1 ls (vI (((x.toNat &&& y.toNat : Nat) : Int)) :: st') μ
    | _ => False
  | .ior => match st with
    | .inl y :: .inl x :: st' => (0 ≤ x ∧ 0 ≤ y) ∧ K e.2.1 ls (vI (((x.toNat ||| y.toNat : Nat) : Int)) :: st') μ
    | _ => False
  | .ixor => match st with
    | .inl y :: .inl x :: st' => (0 ≤ x ∧ 0 ≤ y) ∧ K e.2.1 ls (vI (((x.toNat ^^^ y.toNat : Nat) : Int)) :: st') μ
    | _ => False
  | .i2l => match st with
    | .inl x :: st' => K e.2.1 ls (vL x :: st') μ
    | _ => False
  | .lcmp => match st with
    | .inr (.inl y) :: .inr (.inl x) :: st' => K e.2.1 ls (vI (if y < x then 1 else if x = y then 0 else -1) :: st') μ
    | _ => False
  | .dup => match st with
    | .inl x :: st' => K e.2.1 ls (vI x :: vI x :: st') μ
    | .inr (.inr x) :: st' => K e.2.1 ls (vR x :: vR x :: st') μ
    | _ => False
  | .dup2 => match st with
    | .inl x :: .inr (.inr y) :: st' => K e.2.1 ls (vI x :: vR y :: vI x :: vR y :: st') μ
    | _ => False
  | .goto _ => K e.2.2.2.1 ls st μ
  | .if_icmp .eq _ => match st with
    | .inl y :: .inl x :: st' => (x = y → Wp k e.2.2.2.1 ls st' μ R) ∧ (¬ x = y → Wp k e.2.1 ls st' μ R)
    | _ => False
  | .if_icmp .ne _ => match st with
    | .inl y :: .inl x :: st' => (¬ x = y → Wp k e.2.2.2.1 ls st' μ R) ∧ (x = y → Wp k e.2.1 ls st' μ R)
    | _ => False
  | .if_icmp .lt _ => match st with
    | .inl y :: .inl x :: st' => (x < y → Wp k e.2.2.2.1 ls st' μ R) ∧ (¬ x < y → Wp k e.2.1 ls st' μ R)
    | _ => False
  | .if_icmp .ge _ => match st with
    | .inl y :: .inl x :: st' => (y ≤ x → Wp k e.2.2.2.1 ls st' μ R) ∧ (¬ y ≤ x → Wp k e.2.1 ls st' μ R)
    | _ => False
  | .if_icmp .gt _ => match st with
    | .inl y :: .inl x :: st' => (y < x → Wp k e.2.2.2.1 ls st' μ R) ∧ (¬ y < x → Wp k e.2.1 ls st' μ R)
    | _ => False
  | .if_icmp .le _ => match st with
    | .inl y :: .inl x :: st' => (x ≤ y → Wp k e.2.2.2.1 ls st' μ R) ∧ (¬ x ≤ y → Wp k e.2.1 ls st' μ R)
    | _ => False
  | .ifCond .eq _ => match st with
    | .inl x :: st' => (x = 0 → Wp k e.2.2.2.1 ls st' μ R) ∧ (¬ x = 0 → Wp k e.2.1 ls st' μ R)
    | _ => False
  | .ifCond .ne _ => match st with
    | .inl x :: st' => (¬ x = 0 → Wp k e.2.2.2.1 ls st' μ R) ∧ (x = 0 → Wp k e.2.1 ls st' μ R)
    | _ => False
  | .ifCond .lt _ => match st with
    | .inl x :: st' => (x < 0 → Wp k e.2.2.2.1 ls st' μ R) ∧ (¬ x < 0 → Wp k e.2.1 ls st' μ R)
    | _ => False
  | .ifCond .ge _ => match st with
    | .inl x :: st' => (0 ≤ x → Wp k e.2.2.2.1 ls st' μ R) ∧ (¬ 0 ≤ x → Wp k e.2.1 ls st' μ R)
    | _ => False
  | .ifCond .gt _ => match st with
    | .inl x :: st' => (0 < x → Wp k e.2.2.2.1 ls st' μ R) ∧ (¬ 0 < x → Wp k e.2.1 ls st' μ R)
    | _ => False
  | .ifCond .le _ => match st with
    | .inl x :: st' => (x ≤ 0 → Wp k e.2.2.2.1 ls st' μ R) ∧ (¬ x ≤ 0 → Wp k e.2.1 ls st' μ R)
    | _ => False
  | .tableswitch _ lo hi _ => match st with
    | .inl x :: st' => (∀ j : Nat, j < (hi - lo).toNat + 1 → x = lo + j → Wp k (e.2.2.2.2.2.getD (1 + j) 0) ls st' μ R) ∧ (x < lo ∨ hi < x → Wp k (e.2.2.2.2.2.getD 0 0) ls st' μ R)
    | _ => False
  | .getfield _ => match st with
    | .inr (.inr p) :: st' => match SH[p]? with
      | some (.inr (ci, fs)) => if ci = e.2.2.2.1 then match fs[e.2.2.2.2.1]? with
          | some none => K e.2.1 ls (vI (μ p e.2.2.2.2.1) :: st') μ
          | some (some (some q)) => K e.2.1 ls (vR q :: st') μ
          | _ => False
        else False
      | _ => False
    | _ => False
  | .putfield _ => match st with
    | .inl x :: .inr (.inr p) :: st' => match SH[p]? with
      | some (.inr (ci, fs)) => if ci = e.2.2.2.1 then match fs[e.2.2.2.2.1]? with
          | some none => K e.2.1 ls st' (u2 μ p e.2.2.2.2.1 x)
          | _ => False
        else False
      | _ => False
    | _ => False
  | .iaload => match st with
    | .inl i :: .inr (.inr p) :: st' => match SH[p]? with
      | some (.inl (false, n)) => (0 ≤ i ∧ i < n) ∧ K e.2.1 ls (vI (μ p i) :: st') μ
      | _ => False
    | _ => False
  | .baload => match st with
    | .inl i :: .inr (.inr p) :: st' => match SH[p]? with
      | some (.inl (true, n)) => (0 ≤ i ∧ i < n) ∧ K e.2.1 ls (vI (μ p i) :: st') μ
      | _ => False
    | _ => False
  | .iastore => match st with
    | .inl x :: .inl i :: .inr (.inr p) :: st' => match SH[p]? with
      | some (.inl (false, n)) => (0 ≤ i ∧ i < n) ∧ K e.2.1 ls st' (u2 μ p i x)
      | _ => False
    | _ => False
  | .bastore => match st with
    | .inl x :: .inl i :: .inr (.inr p) :: st' => match SH[p]? with
      | some (.inl (true, n)) => ((0 ≤ i ∧ i < n) ∧ (x = 0 ∨ x = 1)) ∧ K e.2.1 ls st' (u2 μ p i x)
      | _ => False
    | _ => False
  | .invokestatic _ => if e.2.2.2.2.1 = 0 then (match st with
      | .inl y :: .inl x :: st' => st'.length ≤ 4 ∧ K e.2.1 ls (vI (if x < y then y else x) :: st') μ
      | _ => False)
    else if e.2.2.2.2.1 = 1 then (match st with
      | .inl n :: .inl dp :: .inr (.inr q) :: .inl sp :: .inr (.inr p) :: st' => match SH[p]?, SH[q]? with
        | some (.inl (false, n0)), some (.inl (false, n1)) => ((0 ≤ sp ∧ 0 ≤ dp ∧ 0 ≤ n ∧ sp + n ≤ n0 ∧ dp + n ≤ n1) ∧ st'.length ≤ 4) ∧ K e.2.1 ls st' (cpM μ p q sp dp n)
        | _, _ => False
      | _ => False)
    else if 3 ≤ e.2.2.2.2.1 then (match callOk e.2.2.2.1 st with
      | true => Wp e.2.2.2.1 0 (entL e.2.2.2.1 (st.take (mN e.2.2.2.1)).reverse) [] μ (fun r μ' => Wp k e.2.1 ls (r.toList ++ st.drop (mN e.2.2.2.1)) μ' R)
      | false => False) else False
  | .invokevirtual _ => if 3 ≤ e.2.2.2.2.1 then (match callOk e.2.2.2.1 st with
      | true => Wp e.2.2.2.1 0 (entL e.2.2.2.1 (st.take (mN e.2.2.2.1)).reverse) [] μ (fun r μ' => Wp k e.2.1 ls (r.toList ++ st.drop (mN e.2.2.2.1)) μ' R)
      | false => False) else False
  | .return_ => match st with
    | [] => if mR k = 0 then R none μ else False
    | _ => False
  | .ireturn => match st with
    | [.inl x] => if mR k = 1 then R (some (vI x)) μ else if mR k = 2 then (x = 0 ∨ x = 1) ∧ R (some (vI x)) μ else False
    | _ => False
  | _ => False
def wpr : Nat → Nat → Nat → Lo → List PV → Mu → Po → Prop
  | 0, k, pc, ls, st, μ, R => Wp k pc ls st μ R
  | n + 1, k, pc, ls, st, μ, R => match cdAt k pc with
    | some e => wst k e ls st μ R (fun pc' ls' st' μ' => wpr n k pc' ls' st' μ' R)
    | none => False
theorem ex_succ {f k pc : Nat} {ls : Lo} {st : List PV} {M : Mem} {e : En} (hc : cdAt k pc = some e) (h1 : e.1 ≠ .return_) (h2 : e.1 ≠ .ireturn) : exec (f + 1) k pc ls st M = (match cee e with
        | some j => if mN j ≤ st.length ∧ (st.drop (mN j)).length ≤ 4 ∧ argOk j (st.take (mN j)).reverse M.1 = true ∧ mC j ≤ M.2.2.1 ∧ mS j ≤ M.2.2.2 then
            (match exec f j 0 (entL j (st.take (mN j)).reverse) [] (M.1, M.2.1, mC j, mS j) with
              | some (r, M') => exec f k e.2.1 ls (r.toList ++ st.drop (mN j)) (M'.1, M'.2.1, M.2.2.1 - mC j, M.2.2.2 - mS j)
              | none => none)
          else none
        | none => match stp e ls st M with
          | some (pc', ls', st', M') => exec f k pc' ls' st' M'
          | none => none) := by
  obtain ⟨ins, r⟩ := e
  conv => lhs; unfold exec
  rw [hc]
  dsimp only
  cases ins
  case return_ => exact absurd rfl h1
  case ireturn => exact absurd rfl h2
  all_goals rfl
theorem ex_mono : ∀ (f k pc : Nat) (ls : Lo) (st : List PV) (M : Mem) (q : Option PV × Mem), exec f k pc ls st M = some q → exec (f + 1) k pc ls st M = some q := by
  intro f
  induction f with
  | zero =>
    intro k pc ls st M q h
    have h2 : (none : Option (Option PV × Mem)) = some q := h
    cases h2
  | succ f ih =>
    intro k pc ls st M q h
    cases hc : cdAt k pc with
    | none =>
      unfold exec at h
      rw [hc] at h
      cases h
    | some e =>
      by_cases h1 : e.1 = .return_
      · unfold exec at h ⊢
        rw [hc] at h ⊢
        dsimp only at h ⊢
        rw [h1] at h ⊢
        exact h
      · by_cases h2 : e.1 = .ireturn
        · unfold exec at h ⊢
          rw [hc] at h ⊢
          dsimp only at h ⊢
          rw [h2] at h ⊢
          exact h
        · rw [ex_succ hc h1 h2] at h ⊢
          cases hj : cee e with
          | none =>
            rw [hj] at h
            dsimp only at h ⊢
            cases hs : stp e ls st M with
            | none => rw [hs] at h; cases h
            | some z =>
              rw [hs] at h
              exact ih _ _ _ _ _ _ h
          | some j =>
            rw [hj] at h
            dsimp only at h ⊢
            split at h
            · rename_i hq
              rw [if_pos hq]
              cases hx : exec f j 0 (entL j (st.take (mN j)).reverse) [] (M.1, M.2.1, mC j, mS j) with
              | none => rw [hx] at h; cases h
              | some z =>
                rw [hx] at h
                rw [ih _ _ _ _ _ _ hx]
                exact ih _ _ _ _ _ _ h
            · cases h
theorem ex_le {f g k pc : Nat} {ls : Lo} {st : List PV} {M : Mem} {q : Option PV × Mem} (hfg : f ≤ g) (h : exec f k pc ls st M = some q) : exec g k pc ls st M = some q := by
  induction hfg with
  | refl => exact h
  | step _ ih => exact ex_mono _ _ _ _ _ _ _ ih
theorem Wp.st {k pc pc' : Nat} {ls ls' : Lo} {st st' : List PV} {μ μ' : Mu} {R : Po} {e : En} (hc : cdAt k pc = some e) (h1 : e.1 ≠ .return_) (h2 : e.1 ≠ .ireturn) (h3 : cee e = none) (hs : stp e ls st (SH, μ, 0, 0) = some (pc', ls', st', (SH, μ', 0, 0))) (h : Wp k pc' ls' st' μ' R) : Wp k pc ls st μ R := by
  obtain ⟨f, r, μ2, hx, hR⟩ := h
  refine ⟨f + 1, r, μ2, ?_, hR⟩
  rw [ex_succ hc h1 h2, h3]
  dsimp only
  rw [hs]
  exact hx
theorem Wp.call {k pc j : Nat} {ls : Lo} {st : List PV} {μ : Mu} {R : Po} {e : En} (hc : cdAt k pc = some e) (h1 : e.1 ≠ .return_) (h2 : e.1 ≠ .ireturn) (h3 : cee e = some j) (hok : callOk j st = true) (h : Wp j 0 (entL j (st.take (mN j)).reverse) [] μ (fun r μ' => Wp k e.2.1 ls (r.toList ++ st.drop (mN j)) μ' R)) : Wp k pc ls st μ R := by
  obtain ⟨f1, r1, μ1, hx1, f2, r2, μ2, hx2, hR⟩ := h
  unfold callOk at hok
  simp only [Bool.and_eq_true, decide_eq_true_eq, beq_iff_eq] at hok
  obtain ⟨⟨⟨⟨o1, o2⟩, o3⟩, o4⟩, o5⟩ := hok
  refine ⟨max f1 f2 + 1, r2, μ2, ?_, hR⟩
  rw [ex_succ hc h1 h2, h3]
  dsimp only
  rw [if_pos ⟨o1, o2, o3, by rw [o4]; exact Nat.le_refl _, by rw [o5]; exact Nat.le_refl _⟩, o4, o5, ex_le (Nat.le_max_left _ _) hx1]
  exact ex_le (Nat.le_max_right _ _) hx2
set_option maxHeartbeats 4000000 in
theorem wst_ok {k pc : Nat} {e : En} {ls : Lo} {st : List PV} {μ : Mu} {R : Po} {K : Nat → Lo → List PV → Mu → Prop} (hc : cdAt k pc = some e) (hK : ∀ pc' ls' st' μ', K pc' ls' st' μ' → Wp k pc' ls' st' μ' R) (h : wst k e ls st μ R K) : Wp k pc ls st μ R := by
  obtain ⟨ins, nx, cv, a, b, tg⟩ := e
  cases ins
  case iconst n =>
    unfold wst at h
    dsimp only at h
    exact Wp.st hc (by intro z; cases z) (by intro z; cases z) rfl rfl (hK _ _ _ _ h)
  case bipush n =>
    unfold wst at h
    dsimp only at h
    exact Wp.st hc (by intro z; cases z) (by intro z; cases z) rfl rfl (hK _ _ _ _ h)
  case sipush n =>
    unfold wst at h
    dsimp only at h
    exact Wp.st hc (by intro z; cases z) (by intro z; cases z) rfl rfl (hK _ _ _ _ h)
  case lconst n =>
    unfold wst at h
    dsimp only at h
    exact Wp.st hc (by intro z; cases z) (by intro z; cases z) rfl rfl (hK _ _ _ _ h)
  case ldc2_w i =>
    unfold wst at h
    dsimp only at h
    exact Wp.st hc (by intro z; cases z) (by intro z; cases z) rfl rfl (hK _ _ _ _ h)
  case iload i =>
    unfold wst at h
    dsimp only at h
    split at h
    · rename_i x hx
      exact Wp.st hc (by intro z; cases z) (by intro z; cases z) rfl (by unfold stp; dsimp only; rw [hx]) (hK _ _ _ _ h)
    · exact h.elim
  case iload_n i =>
    unfold wst at h
    dsimp only at h
    split at h
    · rename_i x hx
      exact Wp.st hc (by intro z; cases z) (by intro z; cases z) rfl (by unfold stp; dsimp only; rw [hx]) (hK _ _ _ _ h)
    · exact h.elim
  case lload i =>
    unfold wst at h
    dsimp only at h
    split at h
    · rename_i x hx
      exact Wp.st hc (by intro z; cases z) (by intro z; cases z) rfl (by unfold stp; dsimp only; rw [hx]) (hK _ _ _ _ h)
    · exact h.elim
  case lload_n i =>
    unfold wst at h
    dsimp only at h
    split at h
    · rename_i x hx
      exact Wp.st hc (by intro z; cases z) (by intro z; cases z) rfl (by unfold stp; dsimp only; rw [hx]) (hK _ _ _ _ h)
    · exact h.elim
  case aload i =>
    unfold wst at h
    dsimp only at h
    split at h
    · rename_i x hx
      exact Wp.st hc (by intro z; cases z) (by intro z; cases z) rfl (by unfold stp; dsimp only; rw [hx]) (hK _ _ _ _ h)
    · exact h.elim
  case aload_n i =>
    unfold wst at h
    dsimp only at h
    split at h
    · rename_i x hx
      exact Wp.st hc (by intro z; cases z) (by intro z; cases z) rfl (by unfold stp; dsimp only; rw [hx]) (hK _ _ _ _ h)
    · exact h.elim
  case istore i =>
    unfold wst at h
    dsimp only at h
    split at h
    · rename_i x st2
      exact Wp.st hc (by intro z; cases z) (by intro z; cases z) rfl rfl (hK _ _ _ _ h)
    · exact h.elim
  case istore_n i =>
    unfold wst at h
    dsimp only at h
    split at h
    · rename_i x st2
      exact Wp.st hc (by intro z; cases z) (by intro z; cases z) rfl rfl (hK _ _ _ _ h)
    · exact h.elim
  case iinc i n =>
    unfold wst at h
    dsimp only at h
    split at h
    · rename_i x hx
      exact Wp.st hc (by intro z; cases z) (by intro z; cases z) rfl (by unfold stp; dsimp only; rw [hx]; dsimp only; rw [if_pos h.1]) (hK _ _ _ _ h.2)
    · exact h.elim
  case iadd =>
    unfold wst at h
    dsimp only at h
    split at h
    · rename_i y x st2
      exact Wp.st hc (by intro z; cases z) (by intro z; cases z) rfl (by unfold stp; dsimp only; rw [if_pos h.1]) (hK _ _ _ _ h.2)
    · exact h.elim
  case isub =>
    unfold wst at h
    dsimp only at h
    split at h
    · rename_i y x st2
      exact Wp.st hc (by intro z; cases z) (by intro z; cases z) rfl (by unfold stp; dsimp only; rw [if_pos h.1]) (hK _ _ _ _ h.2)
    · exact h.elim
  case imul =>
    unfold wst at h
    dsimp only at h
    split at h
    · rename_i y x st2
      exact Wp.st hc (by intro z; cases z) (by intro z; cases z) rfl (by unfold stp; dsimp only; rw [if_pos h.1]) (hK _ _ _ _ h.2)
    · exact h.elim
  case idiv =>
    unfold wst at h
    dsimp only at h
    split at h
    · rename_i y x st2
      exact Wp.st hc (by intro z; cases z) (by intro z; cases z) rfl (by unfold stp; dsimp only; rw [if_pos h.1]) (hK _ _ _ _ h.2)
    · exact h.elim
  case irem =>
    unfold wst at h
    dsimp only at h
    split at h
    · rename_i y x st2
      exact Wp.st hc (by intro z; cases z) (by intro z; cases z) rfl (by unfold stp; dsimp only; rw [if_pos h.1]) (hK _ _ _ _ h.2)
    · exact h.elim
  case ishl =>
    unfold wst at h
    dsimp only at h
    split at h
    · rename_i y x st2
      exact Wp.st hc (by intro z; cases z) (by intro z; cases z) rfl (by unfold stp; dsimp only; rw [if_pos h.1]) (hK _ _ _ _ h.2)
    · exact h.elim
  case ishr =>
    unfold wst at h
    dsimp only at h
    split at h
    · rename_i y x st2
      exact Wp.st hc (by intro z; cases z) (by intro z; cases z) rfl (by unfold stp; dsimp only; rw [if_pos h.1]) (hK _ _ _ _ h.2)
    · exact h.elim
  case iand =>
    unfold wst at h
    dsimp only at h
    split at h
    · rename_i y x st2
      exact Wp.st hc (by intro z; cases z) (by intro z; cases z) rfl (by unfold stp; dsimp only; rw [if_pos h.1]) (hK _ _ _ _ h.2)
    · exact h.elim
  case ior =>
    unfold wst at h
    dsimp only at h
    split at h
    · rename_i y x st2
      exact Wp.st hc (by intro z; cases z) (by intro z; cases z) rfl (by unfold stp; dsimp only; rw [if_pos h.1]) (hK _ _ _ _ h.2)
    · exact h.elim
  case ixor =>
    unfold wst at h
    dsimp only at h
    split at h
    · rename_i y x st2
      exact Wp.st hc (by intro z; cases z) (by intro z; cases z) rfl (by unfold stp; dsimp only; rw [if_pos h.1]) (hK _ _ _ _ h.2)
    · exact h.elim
  case i2l =>
    unfold wst at h
    dsimp only at h
    split at h
    · exact Wp.st hc (by intro z; cases z) (by intro z; cases z) rfl rfl (hK _ _ _ _ h)
    · exact h.elim
  case lcmp =>
    unfold wst at h
    dsimp only at h
    split at h
    · exact Wp.st hc (by intro z; cases z) (by intro z; cases z) rfl rfl (hK _ _ _ _ h)
    · exact h.elim
  case dup =>
    unfold wst at h
    dsimp only at h
    split at h
    · exact Wp.st hc (by intro z; cases z) (by intro z; cases z) rfl rfl (hK _ _ _ _ h)
    · exact Wp.st hc (by intro z; cases z) (by intro z; cases z) rfl rfl (hK _ _ _ _ h)
    · exact h.elim
  case dup2 =>
    unfold wst at h
    dsimp only at h
    split at h
    · exact Wp.st hc (by intro z; cases z) (by intro z; cases z) rfl rfl (hK _ _ _ _ h)
    · exact h.elim
  case goto off =>
    unfold wst at h
    dsimp only at h
    exact Wp.st hc (by intro z; cases z) (by intro z; cases z) rfl rfl (hK _ _ _ _ h)
  case if_icmp cd off =>
    unfold wst at h
    dsimp only at h
    cases cd with
    | eq =>
      dsimp only at h
      split at h
      · rename_i y x st2
        by_cases hq : x = y
        · refine Wp.st hc (by intro z; cases z) (by intro z; cases z) rfl ?_ (h.1 hq)
          unfold stp; dsimp only
          rw [show cmpI .eq x y = true from decide_eq_true hq]; rfl
        · refine Wp.st hc (by intro z; cases z) (by intro z; cases z) rfl ?_ (h.2 hq)
          unfold stp; dsimp only
          rw [show cmpI .eq x y = false from decide_eq_false hq]; rfl
      · exact h.elim
    | ne =>
      dsimp only at h
      split at h
      · rename_i y x st2
        by_cases hq : x = y
        · refine Wp.st hc (by intro z; cases z) (by intro z; cases z) rfl ?_ (h.2 hq)
          unfold stp; dsimp only
          rw [show cmpI .ne x y = false from decide_eq_false (fun z => z hq)]; rfl
        · refine Wp.st hc (by intro z; cases z) (by intro z; cases z) rfl ?_ (h.1 hq)
          unfold stp; dsimp only
          rw [show cmpI .ne x y = true from decide_eq_true hq]; rfl
      · exact h.elim
    | lt =>
      dsimp only at h
      split at h
      · rename_i y x st2
        by_cases hq : x < y
        · refine Wp.st hc (by intro z; cases z) (by intro z; cases z) rfl ?_ (h.1 hq)
          unfold stp; dsimp only
          rw [show cmpI .lt x y = true from decide_eq_true hq]; rfl
        · refine Wp.st hc (by intro z; cases z) (by intro z; cases z) rfl ?_ (h.2 hq)
          unfold stp; dsimp only
          rw [show cmpI .lt x y = false from decide_eq_false hq]; rfl
      · exact h.elim
    | ge =>
      dsimp only at h
      split at h
      · rename_i y x st2
        by_cases hq : y ≤ x
        · refine Wp.st hc (by intro z; cases z) (by intro z; cases z) rfl ?_ (h.1 hq)
          unfold stp; dsimp only
          rw [show cmpI .ge x y = true from decide_eq_true hq]; rfl
        · refine Wp.st hc (by intro z; cases z) (by intro z; cases z) rfl ?_ (h.2 hq)
          unfold stp; dsimp only
          rw [show cmpI .ge x y = false from decide_eq_false hq]; rfl
      · exact h.elim
    | gt =>
      dsimp only at h
      split at h
      · rename_i y x st2
        by_cases hq : y < x
        · refine Wp.st hc (by intro z; cases z) (by intro z; cases z) rfl ?_ (h.1 hq)
          unfold stp; dsimp only
          rw [show cmpI .gt x y = true from decide_eq_true hq]; rfl
        · refine Wp.st hc (by intro z; cases z) (by intro z; cases z) rfl ?_ (h.2 hq)
          unfold stp; dsimp only
          rw [show cmpI .gt x y = false from decide_eq_false hq]; rfl
      · exact h.elim
    | le =>
      dsimp only at h
      split at h
      · rename_i y x st2
        by_cases hq : x ≤ y
        · refine Wp.st hc (by intro z; cases z) (by intro z; cases z) rfl ?_ (h.1 hq)
          unfold stp; dsimp only
          rw [show cmpI .le x y = true from decide_eq_true hq]; rfl
        · refine Wp.st hc (by intro z; cases z) (by intro z; cases z) rfl ?_ (h.2 hq)
          unfold stp; dsimp only
          rw [show cmpI .le x y = false from decide_eq_false hq]; rfl
      · exact h.elim
  case ifCond cd off =>
    unfold wst at h
    dsimp only at h
    cases cd with
    | eq =>
      dsimp only at h
      split at h
      · rename_i x st2
        by_cases hq : x = 0
        · refine Wp.st hc (by intro z; cases z) (by intro z; cases z) rfl ?_ (h.1 hq)
          unfold stp; dsimp only
          rw [show cmpI .eq x 0 = true from decide_eq_true hq]; rfl
        · refine Wp.st hc (by intro z; cases z) (by intro z; cases z) rfl ?_ (h.2 hq)
          unfold stp; dsimp only
          rw [show cmpI .eq x 0 = false from decide_eq_false hq]; rfl
      · exact h.elim
    | ne =>
      dsimp only at h
      split at h
      · rename_i x st2
        by_cases hq : x = 0
        · refine Wp.st hc (by intro z; cases z) (by intro z; cases z) rfl ?_ (h.2 hq)
          unfold stp; dsimp only
          rw [show cmpI .ne x 0 = false from decide_eq_false (fun z => z hq)]; rfl
        · refine Wp.st hc (by intro z; cases z) (by intro z; cases z) rfl ?_ (h.1 hq)
          unfold stp; dsimp only
          rw [show cmpI .ne x 0 = true from decide_eq_true hq]; rfl
      · exact h.elim
    | lt =>
      dsimp only at h
      split at h
      · rename_i x st2
        by_cases hq : x < 0
        · refine Wp.st hc (by intro z; cases z) (by intro z; cases z) rfl ?_ (h.1 hq)
          unfold stp; dsimp only
          rw [show cmpI .lt x 0 = true from decide_eq_true hq]; rfl
        · refine Wp.st hc (by intro z; cases z) (by intro z; cases z) rfl ?_ (h.2 hq)
          unfold stp; dsimp only
          rw [show cmpI .lt x 0 = false from decide_eq_false hq]; rfl
      · exact h.elim
    | ge =>
      dsimp only at h
      split at h
      · rename_i x st2
        by_cases hq : 0 ≤ x
        · refine Wp.st hc (by intro z; cases z) (by intro z; cases z) rfl ?_ (h.1 hq)
          unfold stp; dsimp only
          rw [show cmpI .ge x 0 = true from decide_eq_true hq]; rfl
        · refine Wp.st hc (by intro z; cases z) (by intro z; cases z) rfl ?_ (h.2 hq)
          unfold stp; dsimp only
          rw [show cmpI .ge x 0 = false from decide_eq_false hq]; rfl
      · exact h.elim
    | gt =>
      dsimp only at h
      split at h
      · rename_i x st2
        by_cases hq : 0 < x
        · refine Wp.st hc (by intro z; cases z) (by intro z; cases z) rfl ?_ (h.1 hq)
          unfold stp; dsimp only
          rw [show cmpI .gt x 0 = true from decide_eq_true hq]; rfl
        · refine Wp.st hc (by intro z; cases z) (by intro z; cases z) rfl ?_ (h.2 hq)
          unfold stp; dsimp only
          rw [show cmpI .gt x 0 = false from decide_eq_false hq]; rfl
      · exact h.elim
    | le =>
      dsimp only at h
      split at h
      · rename_i x st2
        by_cases hq : x ≤ 0
        · refine Wp.st hc (by intro z; cases z) (by intro z; cases z) rfl ?_ (h.1 hq)
          unfold stp; dsimp only
          rw [show cmpI .le x 0 = true from decide_eq_true hq]; rfl
        · refine Wp.st hc (by intro z; cases z) (by intro z; cases z) rfl ?_ (h.2 hq)
          unfold stp; dsimp only
          rw [show cmpI .le x 0 = false from decide_eq_false hq]; rfl
      · exact h.elim
  case tableswitch d lo hi offs =>
    unfold wst at h
    dsimp only at h
    split at h
    · rename_i x st2
      by_cases hq : x < lo ∨ hi < x
      · refine Wp.st hc (by intro z; cases z) (by intro z; cases z) rfl ?_ (h.2 hq)
        unfold stp; dsimp only
        rw [if_pos hq]
      · refine Wp.st hc (by intro z; cases z) (by intro z; cases z) rfl ?_ (h.1 (x - lo).toNat (by omega) (by omega))
        unfold stp; dsimp only
        rw [if_neg hq]
    · exact h.elim
  case getfield i =>
    unfold wst at h
    dsimp only at h
    split at h
    · rename_i q st2
      split at h
      · rename_i ci fs hq
        split at h
        · rename_i hci
          split at h
          · rename_i hv
            exact Wp.st hc (by intro z; cases z) (by intro z; cases z) rfl (by unfold stp; dsimp only; rw [hq]; dsimp only; rw [if_pos hci, hv]) (hK _ _ _ _ h)
          · rename_i z hv
            exact Wp.st hc (by intro z; cases z) (by intro z; cases z) rfl (by unfold stp; dsimp only; rw [hq]; dsimp only; rw [if_pos hci, hv]) (hK _ _ _ _ h)
          · exact h.elim
        · exact h.elim
      · exact h.elim
    · exact h.elim
  case putfield i =>
    unfold wst at h
    dsimp only at h
    split at h
    · rename_i x q st2
      split at h
      · rename_i ci fs hq
        split at h
        · rename_i hci
          split at h
          · rename_i hv
            exact Wp.st hc (by intro z; cases z) (by intro z; cases z) rfl (by unfold stp; dsimp only; rw [hq]; dsimp only; rw [if_pos hci, hv]) (hK _ _ _ _ h)
          · exact h.elim
        · exact h.elim
      · exact h.elim
    · exact h.elim
  case iaload =>
    unfold wst at h
    dsimp only at h
    split at h
    · split at h
      · rename_i n hq
        exact Wp.st hc (by intro z; cases z) (by intro z; cases z) rfl (by unfold stp; dsimp only; rw [hq]; dsimp only; rw [if_pos h.1]) (hK _ _ _ _ h.2)
      · exact h.elim
    · exact h.elim
  case baload =>
    unfold wst at h
    dsimp only at h
    split at h
    · split at h
      · rename_i n hq
        exact Wp.st hc (by intro z; cases z) (by intro z; cases z) rfl (by unfold stp; dsimp only; rw [hq]; dsimp only; rw [if_pos h.1]) (hK _ _ _ _ h.2)
      · exact h.elim
    · exact h.elim
  case iastore =>
    unfold wst at h
    dsimp only at h
    split at h
    · split at h
      · rename_i n hq
        exact Wp.st hc (by intro z; cases z) (by intro z; cases z) rfl (by unfold stp; dsimp only; rw [hq]; dsimp only; rw [if_pos h.1]) (hK _ _ _ _ h.2)
      · exact h.elim
    · exact h.elim
  case bastore =>
    unfold wst at h
    dsimp only at h
    split at h
    · split at h
      · rename_i n hq
        exact Wp.st hc (by intro z; cases z) (by intro z; cases z) rfl (by unfold stp; dsimp only; rw [hq]; dsimp only; rw [if_pos h.1]) (hK _ _ _ _ h.2)
      · exact h.elim
    · exact h.elim
  case invokestatic i =>
    unfold wst at h
    dsimp only at h
    split at h
    · rename_i hb
      subst hb
      split at h
      · exact Wp.st hc (by intro z; cases z) (by intro z; cases z) rfl (by unfold stp; dsimp only; rw [if_pos rfl, if_pos h.1]) (hK _ _ _ _ h.2)
      · exact h.elim
    · split at h
      · rename_i hb0 hb
        subst hb
        split at h
        · split at h
          · rename_i n0 n1 hp hq
            exact Wp.st hc (by intro z; cases z) (by intro z; cases z) rfl (by unfold stp; dsimp only; rw [if_neg (by decide), if_pos rfl, hp, hq]; dsimp only; rw [if_pos h.1]) (hK _ _ _ _ h.2)
          · exact h.elim
        · exact h.elim
      · split at h
        · rename_i hb3
          split at h
          · rename_i hok
            exact Wp.call hc (by intro z; cases z) (by intro z; cases z) (by unfold cee; dsimp only; rw [if_pos hb3]) hok h
          · exact h.elim
        · exact h.elim
  case invokevirtual i =>
    unfold wst at h
    dsimp only at h
    split at h
    · rename_i hb3
      split at h
      · rename_i hok
        exact Wp.call hc (by intro z; cases z) (by intro z; cases z) (by unfold cee; dsimp only; rw [if_pos hb3]) hok h
      · exact h.elim
    · exact h.elim
  case return_ =>
    unfold wst at h
    dsimp only at h
    split at h
    · split at h
      · rename_i hq
        refine ⟨1, none, μ, ?_, h⟩
        unfold exec
        rw [hc]
        dsimp only
        rw [if_pos ⟨hq, rfl⟩]
      · exact h.elim
    · exact h.elim
  case ireturn =>
    unfold wst at h
    dsimp only at h
    split at h
    · rename_i x
      split at h
      · rename_i hq
        refine ⟨1, some (vI x), μ, ?_, h⟩
        unfold exec
        rw [hc]
        dsimp only
        rw [if_pos (Or.inl hq)]
      · split at h
        · rename_i hq
          refine ⟨1, some (vI x), μ, ?_, h.2⟩
          unfold exec
          rw [hc]
          dsimp only
          rw [if_pos (Or.inr ⟨hq, h.1⟩)]
        · exact h.elim
    · exact h.elim
  all_goals exact False.elim h
theorem wpr_ok : ∀ (n : Nat) {k pc : Nat} {ls : Lo} {st : List PV} {μ : Mu} {R : Po}, wpr n k pc ls st μ R → Wp k pc ls st μ R := by
  intro n
  induction n with
  | zero => intro k pc ls st μ R h; exact h
  | succ n ih =>
    intro k pc ls st μ R h
    rw [wpr] at h
    split at h
    · rename_i e hc
      exact wst_ok hc (fun _ _ _ _ h2 => ih h2) h
    · exact h.elim
/-- a run of n instructions: what is left to show stands in the goal, put in your own words by 'show' -/
theorem seg (n : Nat) {k pc : Nat} {ls : Lo} {st : List PV} {μ : Mu} {R : Po} (h : wpr n k pc ls st μ R) : Wp k pc ls st μ R := wpr_ok n h
theorem Wp.mono {k pc : Nat} {ls : Lo} {st : List PV} {μ : Mu} {R R' : Po} (h : Wp k pc ls st μ R) (hR : ∀ r μ', R r μ' → R' r μ') : Wp k pc ls st μ R' := by
  obtain ⟨f, r, μ', h1, h2⟩ := h
  exact ⟨f, r, μ', h1, hR r μ' h2⟩
end
section
/-! bits -/
abbrev tb (x k : Int) : Prop := x / 2 ^ k.toNat % 2 = 1
theorem and1 {x : Int} (hx : 0 ≤ x) : ((Int.toNat x &&& Int.toNat 1 : Nat) : Int) = x % 2 := by
  rw [show Int.toNat 1 = 1 from rfl, Nat.and_one_is_mod]
  omega
theorem sh_nn {x : Int} (hx : 0 ≤ x) (k : Int) : 0 ≤ x / 2 ^ k.toNat := Int.ediv_nonneg hx (Int.pow_nonneg (by decide))
theorem tb_iff {x k : Int} (hx : 0 ≤ x) : ((Int.toNat (x / 2 ^ (k : Int).toNat) &&& Int.toNat 1 : Nat) : Int) = 1 ↔ tb x k := by
  rw [and1 (sh_nn hx k)]
theorem pw_le {k : Int} (h : 0 ≤ k ∧ k < 8) : (1 : Int) * 2 ^ k.toNat ≤ 128 ∧ 0 ≤ (1 : Int) * 2 ^ k.toNat := by
  rcases (show k = 0 ∨ k = 1 ∨ k = 2 ∨ k = 3 ∨ k = 4 ∨ k = 5 ∨ k = 6 ∨ k = 7 by omega) with rfl | rfl | rfl | rfl | rfl | rfl | rfl | rfl <;> decide
theorem or_lo (a b n : Nat) (h : b < 2 ^ n) : a * 2 ^ n ||| b = a * 2 ^ n + b := by
  rw [Nat.mul_comm]
  exact (Nat.two_pow_add_eq_or_of_lt h a).symm

theorem s114 {μ : Mu} {R : Po} {r k : Int} (hb : -1000 ≤ r ∧ r ≤ 1000 ∧ -1000 ≤ k ∧ k ≤ 1000) (h : R (some (vI (r * 8 + k))) μ) : Wp 114 0 [some (vI r), some (vI k)] [] μ R := by
  refine seg 6 (show iR (r * 8) ∧ iR ((r * 8) + k) ∧ R (some (vI ((r * 8) + k))) μ from ⟨by omega, by omega, ?_⟩)
  first | exact h | (exfalso; omega)
theorem s115 {μ : Mu} {R : Po} {r k : Int} (hy : 0 ≤ r ∧ r < 8 ∧ 0 ≤ k ∧ k < 8 → R (some (vI 1)) μ) (hn : ¬ (0 ≤ r ∧ r < 8 ∧ 0 ≤ k ∧ k < 8) → R (some (vI 0)) μ) : Wp 115 0 [some (vI r), some (vI k)] [] μ R := by
  refine seg 2 (show (r < 0 → Wp 115 24 [some (vI r), some (vI k)] [] μ R) ∧ (¬ (r < 0) → Wp 115 4 [some (vI r), some (vI k)] [] μ R) from ⟨fun c1 => ?_, fun c1 => ?_⟩)
  ·
    refine seg 2 (show (0 = 0 ∨ 0 = 1) ∧ R (some (vI 0)) μ from ⟨by decide, ?_⟩)
    first | exact hy (by omega) | exact hn (by omega)
  ·
    refine seg 3 (show (8 ≤ r → Wp 115 24 [some (vI r), some (vI k)] [] μ R) ∧ (¬ (8 ≤ r) → Wp 115 10 [some (vI r), some (vI k)] [] μ R) from ⟨fun c2 => ?_, fun c2 => ?_⟩)
    ·
      refine seg 2 (show (0 = 0 ∨ 0 = 1) ∧ R (some (vI 0)) μ from ⟨by decide, ?_⟩)
      first | exact hy (by omega) | exact hn (by omega)
    ·
      refine seg 2 (show (k < 0 → Wp 115 24 [some (vI r), some (vI k)] [] μ R) ∧ (¬ (k < 0) → Wp 115 14 [some (vI r), some (vI k)] [] μ R) from ⟨fun c3 => ?_, fun c3 => ?_⟩)
      ·
        refine seg 2 (show (0 = 0 ∨ 0 = 1) ∧ R (some (vI 0)) μ from ⟨by decide, ?_⟩)
        first | exact hy (by omega) | exact hn (by omega)
      ·
        refine seg 3 (show (8 ≤ k → Wp 115 24 [some (vI r), some (vI k)] [] μ R) ∧ (¬ (8 ≤ k) → Wp 115 20 [some (vI r), some (vI k)] [] μ R) from ⟨fun c4 => ?_, fun c4 => ?_⟩)
        ·
          refine seg 2 (show (0 = 0 ∨ 0 = 1) ∧ R (some (vI 0)) μ from ⟨by decide, ?_⟩)
          first | exact hy (by omega) | exact hn (by omega)
        ·
          refine seg 3 (show (1 = 0 ∨ 1 = 1) ∧ R (some (vI 1)) μ from ⟨by decide, ?_⟩)
          first | exact hy (by omega) | exact hn (by omega)
theorem s115t {μ : Mu} {R : Po} {r k : Int} (hb : 0 ≤ r ∧ r < 8 ∧ 0 ≤ k ∧ k < 8) (h : R (some (vI 1)) μ) : Wp 115 0 [some (vI r), some (vI k)] [] μ R := s115 (fun _ => h) (fun z => absurd hb z)
theorem s43_4 {μ : Mu} {R : Po} (h : R (some (vI (μ 4 0))) μ) : Wp 43 0 [some (vR 4)] [] μ R := by
  refine seg 3 (show R (some (vI (μ 4 0))) μ from ?_)
  first | exact h | (exfalso; omega)
theorem s44_4 {μ : Mu} {R : Po} {r : Int} (hy : 0 ≤ r ∧ r < μ 4 0 ∧ r < 8 → R (some (vI 1)) μ) (hn : ¬ (0 ≤ r ∧ r < μ 4 0 ∧ r < 8) → R (some (vI 0)) μ) : Wp 44 0 [some (vR 4), some (vI r)] [] μ R := by
  refine seg 2 (show (r < 0 → Wp 44 22 [some (vR 4), some (vI r)] [] μ R) ∧ (¬ (r < 0) → Wp 44 4 [some (vR 4), some (vI r)] [] μ R) from ⟨fun c1 => ?_, fun c1 => ?_⟩)
  ·
    refine seg 2 (show (0 = 0 ∨ 0 = 1) ∧ R (some (vI 0)) μ from ⟨by decide, ?_⟩)
    first | exact hy (by omega) | exact hn (by omega)
  ·
    refine seg 4 (show (μ 4 0 ≤ r → Wp 44 22 [some (vR 4), some (vI r)] [] μ R) ∧ (¬ (μ 4 0 ≤ r) → Wp 44 12 [some (vR 4), some (vI r)] [] μ R) from ⟨fun c2 => ?_, fun c2 => ?_⟩)
    ·
      refine seg 2 (show (0 = 0 ∨ 0 = 1) ∧ R (some (vI 0)) μ from ⟨by decide, ?_⟩)
      first | exact hy (by omega) | exact hn (by omega)
    ·
      refine seg 3 (show (8 ≤ r → Wp 44 22 [some (vR 4), some (vI r)] [] μ R) ∧ (¬ (8 ≤ r) → Wp 44 18 [some (vR 4), some (vI r)] [] μ R) from ⟨fun c3 => ?_, fun c3 => ?_⟩)
      ·
        refine seg 2 (show (0 = 0 ∨ 0 = 1) ∧ R (some (vI 0)) μ from ⟨by decide, ?_⟩)
        first | exact hy (by omega) | exact hn (by omega)
      ·
        refine seg 3 (show (1 = 0 ∨ 1 = 1) ∧ R (some (vI 1)) μ from ⟨by decide, ?_⟩)
        first | exact hy (by omega) | exact hn (by omega)
theorem s45_4 {μ : Mu} {R : Po} {r k : Int} (hy : 0 ≤ r ∧ r < μ 4 0 ∧ r < 8 ∧ 0 ≤ k ∧ k < μ 6 r → R (some (vI 1)) μ) (hn : ¬ (0 ≤ r ∧ r < μ 4 0 ∧ r < 8 ∧ 0 ≤ k ∧ k < μ 6 r) → R (some (vI 0)) μ) : Wp 45 0 [some (vR 4), some (vI r), some (vI k)] [] μ R := by
  refine seg 2 (show (r < 0 → Wp 45 36 [some (vR 4), some (vI r), some (vI k)] [] μ R) ∧ (¬ (r < 0) → Wp 45 4 [some (vR 4), some (vI r), some (vI k)] [] μ R) from ⟨fun c1 => ?_, fun c1 => ?_⟩)
  ·
    refine seg 2 (show (0 = 0 ∨ 0 = 1) ∧ R (some (vI 0)) μ from ⟨by decide, ?_⟩)
    first | exact hy (by omega) | exact hn (by omega)
  ·
    refine seg 4 (show (μ 4 0 ≤ r → Wp 45 36 [some (vR 4), some (vI r), some (vI k)] [] μ R) ∧ (¬ (μ 4 0 ≤ r) → Wp 45 12 [some (vR 4), some (vI r), some (vI k)] [] μ R) from ⟨fun c2 => ?_, fun c2 => ?_⟩)
    ·
      refine seg 2 (show (0 = 0 ∨ 0 = 1) ∧ R (some (vI 0)) μ from ⟨by decide, ?_⟩)
      first | exact hy (by omega) | exact hn (by omega)
    ·
      refine seg 3 (show (8 ≤ r → Wp 45 36 [some (vR 4), some (vI r), some (vI k)] [] μ R) ∧ (¬ (8 ≤ r) → Wp 45 18 [some (vR 4), some (vI r), some (vI k)] [] μ R) from ⟨fun c3 => ?_, fun c3 => ?_⟩)
      ·
        refine seg 2 (show (0 = 0 ∨ 0 = 1) ∧ R (some (vI 0)) μ from ⟨by decide, ?_⟩)
        first | exact hy (by omega) | exact hn (by omega)
      ·
        refine seg 2 (show (k < 0 → Wp 45 36 [some (vR 4), some (vI r), some (vI k)] [] μ R) ∧ (¬ (k < 0) → Wp 45 22 [some (vR 4), some (vI r), some (vI k)] [] μ R) from ⟨fun c4 => ?_, fun c4 => ?_⟩)
        ·
          refine seg 2 (show (0 = 0 ∨ 0 = 1) ∧ R (some (vI 0)) μ from ⟨by decide, ?_⟩)
          first | exact hy (by omega) | exact hn (by omega)
        ·
          refine seg 6 (show (0 ≤ r ∧ r < 8) ∧ (μ 6 r ≤ k → Wp 45 36 [some (vR 4), some (vI r), some (vI k)] [] μ R) ∧ (¬ (μ 6 r ≤ k) → Wp 45 32 [some (vR 4), some (vI r), some (vI k)] [] μ R) from ⟨by omega, fun c5 => ?_, fun c5 => ?_⟩)
          ·
            refine seg 2 (show (0 = 0 ∨ 0 = 1) ∧ R (some (vI 0)) μ from ⟨by decide, ?_⟩)
            first | exact hy (by omega) | exact hn (by omega)
          ·
            refine seg 3 (show (1 = 0 ∨ 1 = 1) ∧ R (some (vI 1)) μ from ⟨by decide, ?_⟩)
            first | exact hy (by omega) | exact hn (by omega)
theorem s44t_4 {μ : Mu} {R : Po} {r : Int} (hb : 0 ≤ r ∧ r < μ 4 0 ∧ r < 8) (h : R (some (vI 1)) μ) : Wp 44 0 [some (vR 4), some (vI r)] [] μ R := s44_4 (fun _ => h) (fun z => absurd hb z)
theorem s44f_4 {μ : Mu} {R : Po} {r : Int} (hb : ¬ (0 ≤ r ∧ r < μ 4 0 ∧ r < 8)) (h : R (some (vI 0)) μ) : Wp 44 0 [some (vR 4), some (vI r)] [] μ R := s44_4 (fun z => absurd z hb) (fun _ => h)
theorem s45t_4 {μ : Mu} {R : Po} {r k : Int} (hb : 0 ≤ r ∧ r < μ 4 0 ∧ r < 8 ∧ 0 ≤ k ∧ k < μ 6 r) (h : R (some (vI 1)) μ) : Wp 45 0 [some (vR 4), some (vI r), some (vI k)] [] μ R := s45_4 (fun _ => h) (fun z => absurd hb z)
theorem s46v_4 {μ : Mu} {R : Po} {r : Int} (hb : 0 ≤ r ∧ r < μ 4 0 ∧ r < 8) (h : R (some (vI (μ 6 r))) μ) : Wp 46 0 [some (vR 4), some (vI r)] [] μ R := by
  refine seg 3 (show Wp 44 0 [some (vR 4), some (vI r)] [] μ (fun rr μ' => Wp 46 5 [some (vR 4), some (vI r)] (rr.toList ++ []) μ' R) from ?_)
  refine s44t_4 (by omega) ?_
  refine seg 1 (show (1 = 0 → Wp 46 17 [some (vR 4), some (vI r)] [] μ R) ∧ (¬ (1 = 0) → Wp 46 8 [some (vR 4), some (vI r)] [] μ R) from ⟨fun z => absurd z (by decide), fun _ => ?_⟩)
  refine seg 6 (show (0 ≤ r ∧ r < 8) ∧ R (some (vI (μ 6 r))) μ from ⟨by omega, ?_⟩)
  first | exact h | (exfalso; omega)
theorem s46n_4 {μ : Mu} {R : Po} {r : Int} (hb : ¬ (0 ≤ r ∧ r < μ 4 0 ∧ r < 8)) (h : R (some (vI 0)) μ) : Wp 46 0 [some (vR 4), some (vI r)] [] μ R := by
  refine seg 3 (show Wp 44 0 [some (vR 4), some (vI r)] [] μ (fun rr μ' => Wp 46 5 [some (vR 4), some (vI r)] (rr.toList ++ []) μ' R) from ?_)
  refine s44f_4 (by omega) ?_
  refine seg 1 (show (0 = 0 → Wp 46 17 [some (vR 4), some (vI r)] [] μ R) ∧ (¬ (0 = 0) → Wp 46 8 [some (vR 4), some (vI r)] [] μ R) from ⟨fun _ => ?_, fun z => absurd z (by decide)⟩)
  refine seg 2 (show R (some (vI 0)) μ from ?_)
  first | exact h | (exfalso; omega)
theorem s47v_4 {μ : Mu} {R : Po} {r w : Int} (hb : (0 ≤ r ∧ r < μ 4 0 ∧ r < 8) ∧ 0 ≤ w ∧ w < 2) (h : R (some (vI (μ 5 (r * 2 + w)))) μ) : Wp 47 0 [some (vR 4), some (vI r), some (vI w)] [] μ R := by
  refine seg 3 (show Wp 44 0 [some (vR 4), some (vI r)] [] μ (fun rr μ' => Wp 47 5 [some (vR 4), some (vI r), some (vI w)] (rr.toList ++ []) μ' R) from ?_)
  refine s44t_4 (by omega) ?_
  refine seg 1 (show (1 = 0 → Wp 47 17 [some (vR 4), some (vI r), some (vI w)] [] μ R) ∧ (¬ (1 = 0) → Wp 47 8 [some (vR 4), some (vI r), some (vI w)] [] μ R) from ⟨fun z => absurd z (by decide), fun _ => ?_⟩)
  refine seg 2 (show (w < 0 → Wp 47 17 [some (vR 4), some (vI r), some (vI w)] [] μ R) ∧ (¬ (w < 0) → Wp 47 12 [some (vR 4), some (vI r), some (vI w)] [] μ R) from ⟨fun c1 => ?_, fun c1 => ?_⟩)
  ·
    refine seg 2 (show R (some (vI (-9))) μ from ?_)
    first | exact h | (exfalso; omega)
  ·
    refine seg 3 (show (w < 2 → Wp 47 20 [some (vR 4), some (vI r), some (vI w)] [] μ R) ∧ (¬ (w < 2) → Wp 47 17 [some (vR 4), some (vI r), some (vI w)] [] μ R) from ⟨fun c2 => ?_, fun c2 => ?_⟩)
    ·
      refine seg 9 (show iR (r * 2) ∧ iR ((r * 2) + w) ∧ (0 ≤ ((r * 2) + w) ∧ ((r * 2) + w) < 16) ∧ R (some (vI (μ 5 ((r * 2) + w)))) μ from ⟨by omega, by omega, by omega, ?_⟩)
      first | exact h | (exfalso; omega)
    ·
      refine seg 2 (show R (some (vI (-9))) μ from ?_)
      first | exact h | (exfalso; omega)
theorem s47n_4 {μ : Mu} {R : Po} {r w : Int} (hb : ¬ (0 ≤ r ∧ r < μ 4 0 ∧ r < 8)) (h : R (some (vI (-9))) μ) : Wp 47 0 [some (vR 4), some (vI r), some (vI w)] [] μ R := by
  refine seg 3 (show Wp 44 0 [some (vR 4), some (vI r)] [] μ (fun rr μ' => Wp 47 5 [some (vR 4), some (vI r), some (vI w)] (rr.toList ++ []) μ' R) from ?_)
  refine s44f_4 (by omega) ?_
  refine seg 1 (show (0 = 0 → Wp 47 17 [some (vR 4), some (vI r), some (vI w)] [] μ R) ∧ (¬ (0 = 0) → Wp 47 8 [some (vR 4), some (vI r), some (vI w)] [] μ R) from ⟨fun _ => ?_, fun z => absurd z (by decide)⟩)
  refine seg 2 (show R (some (vI (-9))) μ from ?_)
  first | exact h | (exfalso; omega)
theorem s48v_4 {μ : Mu} {R : Po} {r k : Int} (hb : (0 ≤ r ∧ r < μ 4 0 ∧ r < 8 ∧ 0 ≤ k ∧ k < μ 6 r) ∧ k < 8) (h : R (some (vI (μ 7 (r * 8 + k)))) μ) : Wp 48 0 [some (vR 4), some (vI r), some (vI k)] [] μ R := by
  refine seg 4 (show Wp 45 0 [some (vR 4), some (vI r), some (vI k)] [] μ (fun rr μ' => Wp 48 6 [some (vR 4), some (vI r), some (vI k)] (rr.toList ++ []) μ' R) from ?_)
  refine s45t_4 (by omega) ?_
  refine seg 1 (show (1 = 0 → Wp 48 28 [some (vR 4), some (vI r), some (vI k)] [] μ R) ∧ (¬ (1 = 0) → Wp 48 9 [some (vR 4), some (vI r), some (vI k)] [] μ R) from ⟨fun z => absurd z (by decide), fun _ => ?_⟩)
  refine seg 3 (show (8 ≤ k → Wp 48 28 [some (vR 4), some (vI r), some (vI k)] [] μ R) ∧ (¬ (8 ≤ k) → Wp 48 15 [some (vR 4), some (vI r), some (vI k)] [] μ R) from ⟨fun c1 => ?_, fun c1 => ?_⟩)
  ·
    refine seg 2 (show R (some (vI (-9))) μ from ?_)
    first | exact h | (exfalso; omega)
  ·
    refine seg 5 (show Wp 114 0 [some (vI r), some (vI k)] [] μ (fun rr μ' => Wp 48 24 [some (vR 4), some (vI r), some (vI k)] (rr.toList ++ [vR 7]) μ' R) from ?_)
    refine s114 (by omega) ?_
    refine seg 3 (show (0 ≤ (r * 8 + k) ∧ (r * 8 + k) < 64) ∧ R (some (vI (μ 7 (r * 8 + k)))) μ from ⟨by omega, ?_⟩)
    first | exact h | (exfalso; omega)
theorem s50_4 {μ : Mu} {R : Po} (h : R none (u2 μ 4 0 0)) : Wp 50 0 [some (vR 4)] [] μ R := by
  refine seg 4 (show R none (u2 μ 4 0 0) from ?_)
  first | exact h | (exfalso; omega)
theorem s43_8 {μ : Mu} {R : Po} (h : R (some (vI (μ 8 0))) μ) : Wp 43 0 [some (vR 8)] [] μ R := by
  refine seg 3 (show R (some (vI (μ 8 0))) μ from ?_)
  first | exact h | (exfalso; omega)
theorem s44_8 {μ : Mu} {R : Po} {r : Int} (hy : 0 ≤ r ∧ r < μ 8 0 ∧ r < 8 → R (some (vI 1)) μ) (hn : ¬ (0 ≤ r ∧ r < μ 8 0 ∧ r < 8) → R (some (vI 0)) μ) : Wp 44 0 [some (vR 8), some (vI r)] [] μ R := by
  refine seg 2 (show (r < 0 → Wp 44 22 [some (vR 8), some (vI r)] [] μ R) ∧ (¬ (r < 0) → Wp 44 4 [some (vR 8), some (vI r)] [] μ R) from ⟨fun c1 => ?_, fun c1 => ?_⟩)
  ·
    refine seg 2 (show (0 = 0 ∨ 0 = 1) ∧ R (some (vI 0)) μ from ⟨by decide, ?_⟩)
    first | exact hy (by omega) | exact hn (by omega)
  ·
    refine seg 4 (show (μ 8 0 ≤ r → Wp 44 22 [some (vR 8), some (vI r)] [] μ R) ∧ (¬ (μ 8 0 ≤ r) → Wp 44 12 [some (vR 8), some (vI r)] [] μ R) from ⟨fun c2 => ?_, fun c2 => ?_⟩)
    ·
      refine seg 2 (show (0 = 0 ∨ 0 = 1) ∧ R (some (vI 0)) μ from ⟨by decide, ?_⟩)
      first | exact hy (by omega) | exact hn (by omega)
    ·
      refine seg 3 (show (8 ≤ r → Wp 44 22 [some (vR 8), some (vI r)] [] μ R) ∧ (¬ (8 ≤ r) → Wp 44 18 [some (vR 8), some (vI r)] [] μ R) from ⟨fun c3 => ?_, fun c3 => ?_⟩)
      ·
        refine seg 2 (show (0 = 0 ∨ 0 = 1) ∧ R (some (vI 0)) μ from ⟨by decide, ?_⟩)
        first | exact hy (by omega) | exact hn (by omega)
      ·
        refine seg 3 (show (1 = 0 ∨ 1 = 1) ∧ R (some (vI 1)) μ from ⟨by decide, ?_⟩)
        first | exact hy (by omega) | exact hn (by omega)
theorem s45_8 {μ : Mu} {R : Po} {r k : Int} (hy : 0 ≤ r ∧ r < μ 8 0 ∧ r < 8 ∧ 0 ≤ k ∧ k < μ 10 r → R (some (vI 1)) μ) (hn : ¬ (0 ≤ r ∧ r < μ 8 0 ∧ r < 8 ∧ 0 ≤ k ∧ k < μ 10 r) → R (some (vI 0)) μ) : Wp 45 0 [some (vR 8), some (vI r), some (vI k)] [] μ R := by
  refine seg 2 (show (r < 0 → Wp 45 36 [some (vR 8), some (vI r), some (vI k)] [] μ R) ∧ (¬ (r < 0) → Wp 45 4 [some (vR 8), some (vI r), some (vI k)] [] μ R) from ⟨fun c1 => ?_, fun c1 => ?_⟩)
  ·
    refine seg 2 (show (0 = 0 ∨ 0 = 1) ∧ R (some (vI 0)) μ from ⟨by decide, ?_⟩)
    first | exact hy (by omega) | exact hn (by omega)
  ·
    refine seg 4 (show (μ 8 0 ≤ r → Wp 45 36 [some (vR 8), some (vI r), some (vI k)] [] μ R) ∧ (¬ (μ 8 0 ≤ r) → Wp 45 12 [some (vR 8), some (vI r), some (vI k)] [] μ R) from ⟨fun c2 => ?_, fun c2 => ?_⟩)
    ·
      refine seg 2 (show (0 = 0 ∨ 0 = 1) ∧ R (some (vI 0)) μ from ⟨by decide, ?_⟩)
      first | exact hy (by omega) | exact hn (by omega)
    ·
      refine seg 3 (show (8 ≤ r → Wp 45 36 [some (vR 8), some (vI r), some (vI k)] [] μ R) ∧ (¬ (8 ≤ r) → Wp 45 18 [some (vR 8), some (vI r), some (vI k)] [] μ R) from ⟨fun c3 => ?_, fun c3 => ?_⟩)
      ·
        refine seg 2 (show (0 = 0 ∨ 0 = 1) ∧ R (some (vI 0)) μ from ⟨by decide, ?_⟩)
        first | exact hy (by omega) | exact hn (by omega)
      ·
        refine seg 2 (show (k < 0 → Wp 45 36 [some (vR 8), some (vI r), some (vI k)] [] μ R) ∧ (¬ (k < 0) → Wp 45 22 [some (vR 8), some (vI r), some (vI k)] [] μ R) from ⟨fun c4 => ?_, fun c4 => ?_⟩)
        ·
          refine seg 2 (show (0 = 0 ∨ 0 = 1) ∧ R (some (vI 0)) μ from ⟨by decide, ?_⟩)
          first | exact hy (by omega) | exact hn (by omega)
        ·
          refine seg 6 (show (0 ≤ r ∧ r < 8) ∧ (μ 10 r ≤ k → Wp 45 36 [some (vR 8), some (vI r), some (vI k)] [] μ R) ∧ (¬ (μ 10 r ≤ k) → Wp 45 32 [some (vR 8), some (vI r), some (vI k)] [] μ R) from ⟨by omega, fun c5 => ?_, fun c5 => ?_⟩)
          ·
            refine seg 2 (show (0 = 0 ∨ 0 = 1) ∧ R (some (vI 0)) μ from ⟨by decide, ?_⟩)
            first | exact hy (by omega) | exact hn (by omega)
          ·
            refine seg 3 (show (1 = 0 ∨ 1 = 1) ∧ R (some (vI 1)) μ from ⟨by decide, ?_⟩)
            first | exact hy (by omega) | exact hn (by omega)
theorem s44t_8 {μ : Mu} {R : Po} {r : Int} (hb : 0 ≤ r ∧ r < μ 8 0 ∧ r < 8) (h : R (some (vI 1)) μ) : Wp 44 0 [some (vR 8), some (vI r)] [] μ R := s44_8 (fun _ => h) (fun z => absurd hb z)
theorem s44f_8 {μ : Mu} {R : Po} {r : Int} (hb : ¬ (0 ≤ r ∧ r < μ 8 0 ∧ r < 8)) (h : R (some (vI 0)) μ) : Wp 44 0 [some (vR 8), some (vI r)] [] μ R := s44_8 (fun z => absurd z hb) (fun _ => h)
theorem s45t_8 {μ : Mu} {R : Po} {r k : Int} (hb : 0 ≤ r ∧ r < μ 8 0 ∧ r < 8 ∧ 0 ≤ k ∧ k < μ 10 r) (h : R (some (vI 1)) μ) : Wp 45 0 [some (vR 8), some (vI r), some (vI k)] [] μ R := s45_8 (fun _ => h) (fun z => absurd hb z)
theorem s46v_8 {μ : Mu} {R : Po} {r : Int} (hb : 0 ≤ r ∧ r < μ 8 0 ∧ r < 8) (h : R (some (vI (μ 10 r))) μ) : Wp 46 0 [some (vR 8), some (vI r)] [] μ R := by
  refine seg 3 (show Wp 44 0 [some (vR 8), some (vI r)] [] μ (fun rr μ' => Wp 46 5 [some (vR 8), some (vI r)] (rr.toList ++ []) μ' R) from ?_)
  refine s44t_8 (by omega) ?_
  refine seg 1 (show (1 = 0 → Wp 46 17 [some (vR 8), some (vI r)] [] μ R) ∧ (¬ (1 = 0) → Wp 46 8 [some (vR 8), some (vI r)] [] μ R) from ⟨fun z => absurd z (by decide), fun _ => ?_⟩)
  refine seg 6 (show (0 ≤ r ∧ r < 8) ∧ R (some (vI (μ 10 r))) μ from ⟨by omega, ?_⟩)
  first | exact h | (exfalso; omega)
theorem s46n_8 {μ : Mu} {R : Po} {r : Int} (hb : ¬ (0 ≤ r ∧ r < μ 8 0 ∧ r < 8)) (h : R (some (vI 0)) μ) : Wp 46 0 [some (vR 8), some (vI r)] [] μ R := by
  refine seg 3 (show Wp 44 0 [some (vR 8), some (vI r)] [] μ (fun rr μ' => Wp 46 5 [some (vR 8), some (vI r)] (rr.toList ++ []) μ' R) from ?_)
  refine s44f_8 (by omega) ?_
  refine seg 1 (show (0 = 0 → Wp 46 17 [some (vR 8), some (vI r)] [] μ R) ∧ (¬ (0 = 0) → Wp 46 8 [some (vR 8), some (vI r)] [] μ R) from ⟨fun _ => ?_, fun z => absurd z (by decide)⟩)
  refine seg 2 (show R (some (vI 0)) μ from ?_)
  first | exact h | (exfalso; omega)
theorem s47v_8 {μ : Mu} {R : Po} {r w : Int} (hb : (0 ≤ r ∧ r < μ 8 0 ∧ r < 8) ∧ 0 ≤ w ∧ w < 2) (h : R (some (vI (μ 9 (r * 2 + w)))) μ) : Wp 47 0 [some (vR 8), some (vI r), some (vI w)] [] μ R := by
  refine seg 3 (show Wp 44 0 [some (vR 8), some (vI r)] [] μ (fun rr μ' => Wp 47 5 [some (vR 8), some (vI r), some (vI w)] (rr.toList ++ []) μ' R) from ?_)
  refine s44t_8 (by omega) ?_
  refine seg 1 (show (1 = 0 → Wp 47 17 [some (vR 8), some (vI r), some (vI w)] [] μ R) ∧ (¬ (1 = 0) → Wp 47 8 [some (vR 8), some (vI r), some (vI w)] [] μ R) from ⟨fun z => absurd z (by decide), fun _ => ?_⟩)
  refine seg 2 (show (w < 0 → Wp 47 17 [some (vR 8), some (vI r), some (vI w)] [] μ R) ∧ (¬ (w < 0) → Wp 47 12 [some (vR 8), some (vI r), some (vI w)] [] μ R) from ⟨fun c1 => ?_, fun c1 => ?_⟩)
  ·
    refine seg 2 (show R (some (vI (-9))) μ from ?_)
    first | exact h | (exfalso; omega)
  ·
    refine seg 3 (show (w < 2 → Wp 47 20 [some (vR 8), some (vI r), some (vI w)] [] μ R) ∧ (¬ (w < 2) → Wp 47 17 [some (vR 8), some (vI r), some (vI w)] [] μ R) from ⟨fun c2 => ?_, fun c2 => ?_⟩)
    ·
      refine seg 9 (show iR (r * 2) ∧ iR ((r * 2) + w) ∧ (0 ≤ ((r * 2) + w) ∧ ((r * 2) + w) < 16) ∧ R (some (vI (μ 9 ((r * 2) + w)))) μ from ⟨by omega, by omega, by omega, ?_⟩)
      first | exact h | (exfalso; omega)
    ·
      refine seg 2 (show R (some (vI (-9))) μ from ?_)
      first | exact h | (exfalso; omega)
theorem s47n_8 {μ : Mu} {R : Po} {r w : Int} (hb : ¬ (0 ≤ r ∧ r < μ 8 0 ∧ r < 8)) (h : R (some (vI (-9))) μ) : Wp 47 0 [some (vR 8), some (vI r), some (vI w)] [] μ R := by
  refine seg 3 (show Wp 44 0 [some (vR 8), some (vI r)] [] μ (fun rr μ' => Wp 47 5 [some (vR 8), some (vI r), some (vI w)] (rr.toList ++ []) μ' R) from ?_)
  refine s44f_8 (by omega) ?_
  refine seg 1 (show (0 = 0 → Wp 47 17 [some (vR 8), some (vI r), some (vI w)] [] μ R) ∧ (¬ (0 = 0) → Wp 47 8 [some (vR 8), some (vI r), some (vI w)] [] μ R) from ⟨fun _ => ?_, fun z => absurd z (by decide)⟩)
  refine seg 2 (show R (some (vI (-9))) μ from ?_)
  first | exact h | (exfalso; omega)
theorem s48v_8 {μ : Mu} {R : Po} {r k : Int} (hb : (0 ≤ r ∧ r < μ 8 0 ∧ r < 8 ∧ 0 ≤ k ∧ k < μ 10 r) ∧ k < 8) (h : R (some (vI (μ 11 (r * 8 + k)))) μ) : Wp 48 0 [some (vR 8), some (vI r), some (vI k)] [] μ R := by
  refine seg 4 (show Wp 45 0 [some (vR 8), some (vI r), some (vI k)] [] μ (fun rr μ' => Wp 48 6 [some (vR 8), some (vI r), some (vI k)] (rr.toList ++ []) μ' R) from ?_)
  refine s45t_8 (by omega) ?_
  refine seg 1 (show (1 = 0 → Wp 48 28 [some (vR 8), some (vI r), some (vI k)] [] μ R) ∧ (¬ (1 = 0) → Wp 48 9 [some (vR 8), some (vI r), some (vI k)] [] μ R) from ⟨fun z => absurd z (by decide), fun _ => ?_⟩)
  refine seg 3 (show (8 ≤ k → Wp 48 28 [some (vR 8), some (vI r), some (vI k)] [] μ R) ∧ (¬ (8 ≤ k) → Wp 48 15 [some (vR 8), some (vI r), some (vI k)] [] μ R) from ⟨fun c1 => ?_, fun c1 => ?_⟩)
  ·
    refine seg 2 (show R (some (vI (-9))) μ from ?_)
    first | exact h | (exfalso; omega)
  ·
    refine seg 5 (show Wp 114 0 [some (vI r), some (vI k)] [] μ (fun rr μ' => Wp 48 24 [some (vR 8), some (vI r), some (vI k)] (rr.toList ++ [vR 11]) μ' R) from ?_)
    refine s114 (by omega) ?_
    refine seg 3 (show (0 ≤ (r * 8 + k) ∧ (r * 8 + k) < 64) ∧ R (some (vI (μ 11 (r * 8 + k)))) μ from ⟨by omega, ?_⟩)
    first | exact h | (exfalso; omega)
theorem s50_8 {μ : Mu} {R : Po} (h : R none (u2 μ 8 0 0)) : Wp 50 0 [some (vR 8)] [] μ R := by
  refine seg 4 (show R none (u2 μ 8 0 0) from ?_)
  first | exact h | (exfalso; omega)
theorem s18v_13 {μ : Mu} {R : Po} {r : Int} (hb : 0 ≤ r ∧ r < 8) (h : R (some (vI (μ 14 r))) μ) : Wp 18 0 [some (vR 13), some (vI r)] [] μ R := by
  refine seg 2 (show (r < 0 → Wp 18 19 [some (vR 13), some (vI r)] [] μ R) ∧ (¬ (r < 0) → Wp 18 4 [some (vR 13), some (vI r)] [] μ R) from ⟨fun c1 => ?_, fun c1 => ?_⟩)
  ·
    refine seg 2 (show R (some (vI (-9))) μ from ?_)
    first | exact h | (exfalso; omega)
  ·
    refine seg 3 (show (8 ≤ r → Wp 18 19 [some (vR 13), some (vI r)] [] μ R) ∧ (¬ (8 ≤ r) → Wp 18 10 [some (vR 13), some (vI r)] [] μ R) from ⟨fun c2 => ?_, fun c2 => ?_⟩)
    ·
      refine seg 2 (show R (some (vI (-9))) μ from ?_)
      first | exact h | (exfalso; omega)
    ·
      refine seg 6 (show (0 ≤ r ∧ r < 8) ∧ R (some (vI (μ 14 r))) μ from ⟨by omega, ?_⟩)
      first | exact h | (exfalso; omega)
theorem s19v_13 {μ : Mu} {R : Po} {r k : Int} (hb : 0 ≤ r ∧ r < 8 ∧ 0 ≤ k ∧ k < 8) (h : R (some (vI (μ 15 (r * 8 + k)))) μ) : Wp 19 0 [some (vR 13), some (vI r), some (vI k)] [] μ R := by
  refine seg 3 (show Wp 115 0 [some (vI r), some (vI k)] [] μ (fun rr μ' => Wp 19 5 [some (vR 13), some (vI r), some (vI k)] (rr.toList ++ []) μ' R) from ?_)
  refine s115t (by omega) ?_
  refine seg 1 (show (1 = 0 → Wp 19 21 [some (vR 13), some (vI r), some (vI k)] [] μ R) ∧ (¬ (1 = 0) → Wp 19 8 [some (vR 13), some (vI r), some (vI k)] [] μ R) from ⟨fun z => absurd z (by decide), fun _ => ?_⟩)
  refine seg 5 (show Wp 114 0 [some (vI r), some (vI k)] [] μ (fun rr μ' => Wp 19 17 [some (vR 13), some (vI r), some (vI k)] (rr.toList ++ [vR 15]) μ' R) from ?_)
  refine s114 (by omega) ?_
  refine seg 3 (show (0 ≤ (r * 8 + k) ∧ (r * 8 + k) < 64) ∧ R (some (vI (μ 15 (r * 8 + k)))) μ from ⟨by omega, ?_⟩)
  first | exact h | (exfalso; omega)
theorem s20_13 {μ : Mu} {R : Po} {r k : Int} (hb : 0 ≤ r ∧ r < 8 ∧ 0 ≤ k ∧ k < 8) (h0 : 0 ≤ μ 16 r) (hy : tb (μ 16 r) k → R (some (vI 1)) μ) (hn : ¬ tb (μ 16 r) k → R (some (vI 0)) μ) : Wp 20 0 [some (vR 13), some (vI r), some (vI k)] [] μ R := by
  have hs := sh_nn h0 k
  refine seg 3 (show Wp 115 0 [some (vI r), some (vI k)] [] μ (fun rr μ' => Wp 20 5 [some (vR 13), some (vI r), some (vI k)] (rr.toList ++ []) μ' R) from ?_)
  refine s115t (by omega) ?_
  refine seg 1 (show (1 = 0 → Wp 20 26 [some (vR 13), some (vI r), some (vI k)] [] μ R) ∧ (¬ (1 = 0) → Wp 20 8 [some (vR 13), some (vI r), some (vI k)] [] μ R) from ⟨fun z => absurd z (by decide), fun _ => ?_⟩)
  refine seg 10 (show (0 ≤ r ∧ r < 8) ∧ (0 ≤ (μ 16 r) ∧ 0 ≤ k ∧ k < 31) ∧ (0 ≤ ((μ 16 r) / 2 ^ (k : Int).toNat) ∧ 0 ≤ 1) ∧ (¬ (((Int.toNat ((μ 16 r) / 2 ^ (k : Int).toNat) &&& Int.toNat 1 : Nat) : Int) = 1) → Wp 20 26 [some (vR 13), some (vI r), some (vI k)] [] μ R) ∧ (((Int.toNat ((μ 16 r) / 2 ^ (k : Int).toNat) &&& Int.toNat 1 : Nat) : Int) = 1 → Wp 20 22 [some (vR 13), some (vI r), some (vI k)] [] μ R) from ⟨by omega, by omega, by omega, fun c1 => ?_, fun c1 => ?_⟩)
  ·
    refine seg 2 (show (0 = 0 ∨ 0 = 1) ∧ R (some (vI 0)) μ from ⟨by decide, ?_⟩)
    first | exact hy ((tb_iff h0).mp (by assumption)) | exact hn (fun z => absurd ((tb_iff h0).mpr z) (by assumption)) | (exfalso; omega)
  ·
    refine seg 3 (show (1 = 0 ∨ 1 = 1) ∧ R (some (vI 1)) μ from ⟨by decide, ?_⟩)
    first | exact hy ((tb_iff h0).mp (by assumption)) | exact hn (fun z => absurd ((tb_iff h0).mpr z) (by assumption)) | (exfalso; omega)
theorem s21v_13 {μ : Mu} {R : Po} {r : Int} (hb : 0 ≤ r ∧ r < 8) (h : R (some (vI (μ 17 r))) μ) : Wp 21 0 [some (vR 13), some (vI r)] [] μ R := by
  refine seg 2 (show (r < 0 → Wp 21 19 [some (vR 13), some (vI r)] [] μ R) ∧ (¬ (r < 0) → Wp 21 4 [some (vR 13), some (vI r)] [] μ R) from ⟨fun c1 => ?_, fun c1 => ?_⟩)
  ·
    refine seg 2 (show R (some (vI (-9))) μ from ?_)
    first | exact h | (exfalso; omega)
  ·
    refine seg 3 (show (8 ≤ r → Wp 21 19 [some (vR 13), some (vI r)] [] μ R) ∧ (¬ (8 ≤ r) → Wp 21 10 [some (vR 13), some (vI r)] [] μ R) from ⟨fun c2 => ?_, fun c2 => ?_⟩)
    ·
      refine seg 2 (show R (some (vI (-9))) μ from ?_)
      first | exact h | (exfalso; omega)
    ·
      refine seg 6 (show (0 ≤ r ∧ r < 8) ∧ R (some (vI (μ 17 r))) μ from ⟨by omega, ?_⟩)
      first | exact h | (exfalso; omega)
theorem s25v_13 {μ : Mu} {R : Po} {i j : Int} (hb : 0 ≤ i ∧ i < 9 ∧ 0 ≤ j ∧ j < 9) (h : R (some (vI (μ 18 (i * 9 + j)))) μ) : Wp 25 0 [some (vR 13), some (vI i), some (vI j)] [] μ R := by
  refine seg 2 (show (i < 0 → Wp 25 34 [some (vR 13), some (vI i), some (vI j)] [] μ R) ∧ (¬ (i < 0) → Wp 25 4 [some (vR 13), some (vI i), some (vI j)] [] μ R) from ⟨fun c1 => ?_, fun c1 => ?_⟩)
  ·
    refine seg 2 (show R (some (vI 0)) μ from ?_)
    first | exact h | (exfalso; omega)
  ·
    refine seg 3 (show (9 ≤ i → Wp 25 34 [some (vR 13), some (vI i), some (vI j)] [] μ R) ∧ (¬ (9 ≤ i) → Wp 25 10 [some (vR 13), some (vI i), some (vI j)] [] μ R) from ⟨fun c2 => ?_, fun c2 => ?_⟩)
    ·
      refine seg 2 (show R (some (vI 0)) μ from ?_)
      first | exact h | (exfalso; omega)
    ·
      refine seg 2 (show (j < 0 → Wp 25 34 [some (vR 13), some (vI i), some (vI j)] [] μ R) ∧ (¬ (j < 0) → Wp 25 14 [some (vR 13), some (vI i), some (vI j)] [] μ R) from ⟨fun c3 => ?_, fun c3 => ?_⟩)
      ·
        refine seg 2 (show R (some (vI 0)) μ from ?_)
        first | exact h | (exfalso; omega)
      ·
        refine seg 3 (show (9 ≤ j → Wp 25 34 [some (vR 13), some (vI i), some (vI j)] [] μ R) ∧ (¬ (9 ≤ j) → Wp 25 20 [some (vR 13), some (vI i), some (vI j)] [] μ R) from ⟨fun c4 => ?_, fun c4 => ?_⟩)
        ·
          refine seg 2 (show R (some (vI 0)) μ from ?_)
          first | exact h | (exfalso; omega)
        ·
          refine seg 10 (show iR (i * 9) ∧ iR ((i * 9) + j) ∧ (0 ≤ ((i * 9) + j) ∧ ((i * 9) + j) < 81) ∧ R (some (vI (μ 18 ((i * 9) + j)))) μ from ⟨by omega, by omega, by omega, ?_⟩)
          first | exact h | (exfalso; omega)
theorem s26v_13 {μ : Mu} {R : Po} {i j v : Int} (hb : 0 ≤ i ∧ i < 9 ∧ 0 ≤ j ∧ j < 9) (h : R none (u2 μ 18 (i * 9 + j) v)) : Wp 26 0 [some (vR 13), some (vI i), some (vI j), some (vI v)] [] μ R := by
  refine seg 2 (show (i < 0 → Wp 26 32 [some (vR 13), some (vI i), some (vI j), some (vI v)] [] μ R) ∧ (¬ (i < 0) → Wp 26 4 [some (vR 13), some (vI i), some (vI j), some (vI v)] [] μ R) from ⟨fun c1 => ?_, fun c1 => ?_⟩)
  ·
    refine seg 1 (show R none μ from ?_)
    first | exact h | (exfalso; omega)
  ·
    refine seg 3 (show (9 ≤ i → Wp 26 32 [some (vR 13), some (vI i), some (vI j), some (vI v)] [] μ R) ∧ (¬ (9 ≤ i) → Wp 26 10 [some (vR 13), some (vI i), some (vI j), some (vI v)] [] μ R) from ⟨fun c2 => ?_, fun c2 => ?_⟩)
    ·
      refine seg 1 (show R none μ from ?_)
      first | exact h | (exfalso; omega)
    ·
      refine seg 2 (show (j < 0 → Wp 26 32 [some (vR 13), some (vI i), some (vI j), some (vI v)] [] μ R) ∧ (¬ (j < 0) → Wp 26 14 [some (vR 13), some (vI i), some (vI j), some (vI v)] [] μ R) from ⟨fun c3 => ?_, fun c3 => ?_⟩)
      ·
        refine seg 1 (show R none μ from ?_)
        first | exact h | (exfalso; omega)
      ·
        refine seg 3 (show (9 ≤ j → Wp 26 32 [some (vR 13), some (vI i), some (vI j), some (vI v)] [] μ R) ∧ (¬ (9 ≤ j) → Wp 26 20 [some (vR 13), some (vI i), some (vI j), some (vI v)] [] μ R) from ⟨fun c4 => ?_, fun c4 => ?_⟩)
        ·
          refine seg 1 (show R none μ from ?_)
          first | exact h | (exfalso; omega)
        ·
          refine seg 10 (show iR (i * 9) ∧ iR ((i * 9) + j) ∧ (0 ≤ ((i * 9) + j) ∧ ((i * 9) + j) < 81) ∧ R none (u2 μ 18 ((i * 9) + j) v) from ⟨by omega, by omega, by omega, ?_⟩)
          first | exact h | (exfalso; omega)
theorem s28v_13 {μ : Mu} {R : Po} {r i k : Int} (hb : 0 ≤ r ∧ r < 8 ∧ 0 ≤ k ∧ k < 8 ∧ 0 ≤ i ∧ i < 8) (h0 : 0 ≤ μ 16 r) (h : R none (u2 (u2 μ 15 (r * 8 + k) i) 16 r ((Int.toNat (μ 16 r) ||| Int.toNat (1 * 2 ^ (i : Int).toNat) : Nat) : Int))) : Wp 28 0 [some (vR 13), some (vI r), some (vI i), some (vI k)] [] μ R := by
  have hp := pw_le (k := i) (by omega)
  refine seg 3 (show Wp 115 0 [some (vI r), some (vI k)] [] μ (fun rr μ' => Wp 28 5 [some (vR 13), some (vI r), some (vI i), some (vI k)] (rr.toList ++ []) μ' R) from ?_)
  refine s115t (by omega) ?_
  refine seg 1 (show (1 = 0 → Wp 28 31 [some (vR 13), some (vI r), some (vI i), some (vI k)] [] μ R) ∧ (¬ (1 = 0) → Wp 28 8 [some (vR 13), some (vI r), some (vI i), some (vI k)] [] μ R) from ⟨fun z => absurd z (by decide), fun _ => ?_⟩)
  refine seg 5 (show Wp 114 0 [some (vI r), some (vI k)] [] μ (fun rr μ' => Wp 28 17 [some (vR 13), some (vI r), some (vI i), some (vI k)] (rr.toList ++ [vR 15]) μ' R) from ?_)
  refine s114 (by omega) ?_
  refine seg 13 (show (0 ≤ (r * 8 + k) ∧ (r * 8 + k) < 64) ∧ (0 ≤ r ∧ r < 8) ∧ (0 ≤ 1 ∧ 0 ≤ i ∧ i < 31 ∧ 1 * 2 ^ (i : Int).toNat ≤ 2147483647) ∧ (0 ≤ (μ 16 r) ∧ 0 ≤ (1 * 2 ^ (i : Int).toNat)) ∧ (0 ≤ r ∧ r < 8) ∧ R none (u2 (u2 μ 15 (r * 8 + k) i) 16 r ((Int.toNat (μ 16 r) ||| Int.toNat (1 * 2 ^ (i : Int).toNat) : Nat) : Int)) from ⟨by omega, by omega, by omega, by omega, by omega, ?_⟩)
  first | exact h | (exfalso; omega)
theorem s18v_19 {μ : Mu} {R : Po} {r : Int} (hb : 0 ≤ r ∧ r < 8) (h : R (some (vI (μ 20 r))) μ) : Wp 18 0 [some (vR 19), some (vI r)] [] μ R := by
  refine seg 2 (show (r < 0 → Wp 18 19 [some (vR 19), some (vI r)] [] μ R) ∧ (¬ (r < 0) → Wp 18 4 [some (vR 19), some (vI r)] [] μ R) from ⟨fun c1 => ?_, fun c1 => ?_⟩)
  ·
    refine seg 2 (show R (some (vI (-9))) μ from ?_)
    first | exact h | (exfalso; omega)
  ·
    refine seg 3 (show (8 ≤ r → Wp 18 19 [some (vR 19), some (vI r)] [] μ R) ∧ (¬ (8 ≤ r) → Wp 18 10 [some (vR 19), some (vI r)] [] μ R) from ⟨fun c2 => ?_, fun c2 => ?_⟩)
    ·
      refine seg 2 (show R (some (vI (-9))) μ from ?_)
      first | exact h | (exfalso; omega)
    ·
      refine seg 6 (show (0 ≤ r ∧ r < 8) ∧ R (some (vI (μ 20 r))) μ from ⟨by omega, ?_⟩)
      first | exact h | (exfalso; omega)
theorem s19v_19 {μ : Mu} {R : Po} {r k : Int} (hb : 0 ≤ r ∧ r < 8 ∧ 0 ≤ k ∧ k < 8) (h : R (some (vI (μ 21 (r * 8 + k)))) μ) : Wp 19 0 [some (vR 19), some (vI r), some (vI k)] [] μ R := by
  refine seg 3 (show Wp 115 0 [some (vI r), some (vI k)] [] μ (fun rr μ' => Wp 19 5 [some (vR 19), some (vI r), some (vI k)] (rr.toList ++ []) μ' R) from ?_)
  refine s115t (by omega) ?_
  refine seg 1 (show (1 = 0 → Wp 19 21 [some (vR 19), some (vI r), some (vI k)] [] μ R) ∧ (¬ (1 = 0) → Wp 19 8 [some (vR 19), some (vI r), some (vI k)] [] μ R) from ⟨fun z => absurd z (by decide), fun _ => ?_⟩)
  refine seg 5 (show Wp 114 0 [some (vI r), some (vI k)] [] μ (fun rr μ' => Wp 19 17 [some (vR 19), some (vI r), some (vI k)] (rr.toList ++ [vR 21]) μ' R) from ?_)
  refine s114 (by omega) ?_
  refine seg 3 (show (0 ≤ (r * 8 + k) ∧ (r * 8 + k) < 64) ∧ R (some (vI (μ 21 (r * 8 + k)))) μ from ⟨by omega, ?_⟩)
  first | exact h | (exfalso; omega)
theorem s20_19 {μ : Mu} {R : Po} {r k : Int} (hb : 0 ≤ r ∧ r < 8 ∧ 0 ≤ k ∧ k < 8) (h0 : 0 ≤ μ 22 r) (hy : tb (μ 22 r) k → R (some (vI 1)) μ) (hn : ¬ tb (μ 22 r) k → R (some (vI 0)) μ) : Wp 20 0 [some (vR 19), some (vI r), some (vI k)] [] μ R := by
  have hs := sh_nn h0 k
  refine seg 3 (show Wp 115 0 [some (vI r), some (vI k)] [] μ (fun rr μ' => Wp 20 5 [some (vR 19), some (vI r), some (vI k)] (rr.toList ++ []) μ' R) from ?_)
  refine s115t (by omega) ?_
  refine seg 1 (show (1 = 0 → Wp 20 26 [some (vR 19), some (vI r), some (vI k)] [] μ R) ∧ (¬ (1 = 0) → Wp 20 8 [some (vR 19), some (vI r), some (vI k)] [] μ R) from ⟨fun z => absurd z (by decide), fun _ => ?_⟩)
  refine seg 10 (show (0 ≤ r ∧ r < 8) ∧ (0 ≤ (μ 22 r) ∧ 0 ≤ k ∧ k < 31) ∧ (0 ≤ ((μ 22 r) / 2 ^ (k : Int).toNat) ∧ 0 ≤ 1) ∧ (¬ (((Int.toNat ((μ 22 r) / 2 ^ (k : Int).toNat) &&& Int.toNat 1 : Nat) : Int) = 1) → Wp 20 26 [some (vR 19), some (vI r), some (vI k)] [] μ R) ∧ (((Int.toNat ((μ 22 r) / 2 ^ (k : Int).toNat) &&& Int.toNat 1 : Nat) : Int) = 1 → Wp 20 22 [some (vR 19), some (vI r), some (vI k)] [] μ R) from ⟨by omega, by omega, by omega, fun c1 => ?_, fun c1 => ?_⟩)
  ·
    refine seg 2 (show (0 = 0 ∨ 0 = 1) ∧ R (some (vI 0)) μ from ⟨by decide, ?_⟩)
    first | exact hy ((tb_iff h0).mp (by assumption)) | exact hn (fun z => absurd ((tb_iff h0).mpr z) (by assumption)) | (exfalso; omega)
  ·
    refine seg 3 (show (1 = 0 ∨ 1 = 1) ∧ R (some (vI 1)) μ from ⟨by decide, ?_⟩)
    first | exact hy ((tb_iff h0).mp (by assumption)) | exact hn (fun z => absurd ((tb_iff h0).mpr z) (by assumption)) | (exfalso; omega)
theorem s21v_19 {μ : Mu} {R : Po} {r : Int} (hb : 0 ≤ r ∧ r < 8) (h : R (some (vI (μ 23 r))) μ) : Wp 21 0 [some (vR 19), some (vI r)] [] μ R := by
  refine seg 2 (show (r < 0 → Wp 21 19 [some (vR 19), some (vI r)] [] μ R) ∧ (¬ (r < 0) → Wp 21 4 [some (vR 19), some (vI r)] [] μ R) from ⟨fun c1 => ?_, fun c1 => ?_⟩)
  ·
    refine seg 2 (show R (some (vI (-9))) μ from ?_)
    first | exact h | (exfalso; omega)
  ·
    refine seg 3 (show (8 ≤ r → Wp 21 19 [some (vR 19), some (vI r)] [] μ R) ∧ (¬ (8 ≤ r) → Wp 21 10 [some (vR 19), some (vI r)] [] μ R) from ⟨fun c2 => ?_, fun c2 => ?_⟩)
    ·
      refine seg 2 (show R (some (vI (-9))) μ from ?_)
      first | exact h | (exfalso; omega)
    ·
      refine seg 6 (show (0 ≤ r ∧ r < 8) ∧ R (some (vI (μ 23 r))) μ from ⟨by omega, ?_⟩)
      first | exact h | (exfalso; omega)
theorem s25v_19 {μ : Mu} {R : Po} {i j : Int} (hb : 0 ≤ i ∧ i < 9 ∧ 0 ≤ j ∧ j < 9) (h : R (some (vI (μ 24 (i * 9 + j)))) μ) : Wp 25 0 [some (vR 19), some (vI i), some (vI j)] [] μ R := by
  refine seg 2 (show (i < 0 → Wp 25 34 [some (vR 19), some (vI i), some (vI j)] [] μ R) ∧ (¬ (i < 0) → Wp 25 4 [some (vR 19), some (vI i), some (vI j)] [] μ R) from ⟨fun c1 => ?_, fun c1 => ?_⟩)
  ·
    refine seg 2 (show R (some (vI 0)) μ from ?_)
    first | exact h | (exfalso; omega)
  ·
    refine seg 3 (show (9 ≤ i → Wp 25 34 [some (vR 19), some (vI i), some (vI j)] [] μ R) ∧ (¬ (9 ≤ i) → Wp 25 10 [some (vR 19), some (vI i), some (vI j)] [] μ R) from ⟨fun c2 => ?_, fun c2 => ?_⟩)
    ·
      refine seg 2 (show R (some (vI 0)) μ from ?_)
      first | exact h | (exfalso; omega)
    ·
      refine seg 2 (show (j < 0 → Wp 25 34 [some (vR 19), some (vI i), some (vI j)] [] μ R) ∧ (¬ (j < 0) → Wp 25 14 [some (vR 19), some (vI i), some (vI j)] [] μ R) from ⟨fun c3 => ?_, fun c3 => ?_⟩)
      ·
        refine seg 2 (show R (some (vI 0)) μ from ?_)
        first | exact h | (exfalso; omega)
      ·
        refine seg 3 (show (9 ≤ j → Wp 25 34 [some (vR 19), some (vI i), some (vI j)] [] μ R) ∧ (¬ (9 ≤ j) → Wp 25 20 [some (vR 19), some (vI i), some (vI j)] [] μ R) from ⟨fun c4 => ?_, fun c4 => ?_⟩)
        ·
          refine seg 2 (show R (some (vI 0)) μ from ?_)
          first | exact h | (exfalso; omega)
        ·
          refine seg 10 (show iR (i * 9) ∧ iR ((i * 9) + j) ∧ (0 ≤ ((i * 9) + j) ∧ ((i * 9) + j) < 81) ∧ R (some (vI (μ 24 ((i * 9) + j)))) μ from ⟨by omega, by omega, by omega, ?_⟩)
          first | exact h | (exfalso; omega)
theorem s26v_19 {μ : Mu} {R : Po} {i j v : Int} (hb : 0 ≤ i ∧ i < 9 ∧ 0 ≤ j ∧ j < 9) (h : R none (u2 μ 24 (i * 9 + j) v)) : Wp 26 0 [some (vR 19), some (vI i), some (vI j), some (vI v)] [] μ R := by
  refine seg 2 (show (i < 0 → Wp 26 32 [some (vR 19), some (vI i), some (vI j), some (vI v)] [] μ R) ∧ (¬ (i < 0) → Wp 26 4 [some (vR 19), some (vI i), some (vI j), some (vI v)] [] μ R) from ⟨fun c1 => ?_, fun c1 => ?_⟩)
  ·
    refine seg 1 (show R none μ from ?_)
    first | exact h | (exfalso; omega)
  ·
    refine seg 3 (show (9 ≤ i → Wp 26 32 [some (vR 19), some (vI i), some (vI j), some (vI v)] [] μ R) ∧ (¬ (9 ≤ i) → Wp 26 10 [some (vR 19), some (vI i), some (vI j), some (vI v)] [] μ R) from ⟨fun c2 => ?_, fun c2 => ?_⟩)
    ·
      refine seg 1 (show R none μ from ?_)
      first | exact h | (exfalso; omega)
    ·
      refine seg 2 (show (j < 0 → Wp 26 32 [some (vR 19), some (vI i), some (vI j), some (vI v)] [] μ R) ∧ (¬ (j < 0) → Wp 26 14 [some (vR 19), some (vI i), some (vI j), some (vI v)] [] μ R) from ⟨fun c3 => ?_, fun c3 => ?_⟩)
      ·
        refine seg 1 (show R none μ from ?_)
        first | exact h | (exfalso; omega)
      ·
        refine seg 3 (show (9 ≤ j → Wp 26 32 [some (vR 19), some (vI i), some (vI j), some (vI v)] [] μ R) ∧ (¬ (9 ≤ j) → Wp 26 20 [some (vR 19), some (vI i), some (vI j), some (vI v)] [] μ R) from ⟨fun c4 => ?_, fun c4 => ?_⟩)
        ·
          refine seg 1 (show R none μ from ?_)
          first | exact h | (exfalso; omega)
        ·
          refine seg 10 (show iR (i * 9) ∧ iR ((i * 9) + j) ∧ (0 ≤ ((i * 9) + j) ∧ ((i * 9) + j) < 81) ∧ R none (u2 μ 24 ((i * 9) + j) v) from ⟨by omega, by omega, by omega, ?_⟩)
          first | exact h | (exfalso; omega)
theorem s28v_19 {μ : Mu} {R : Po} {r i k : Int} (hb : 0 ≤ r ∧ r < 8 ∧ 0 ≤ k ∧ k < 8 ∧ 0 ≤ i ∧ i < 8) (h0 : 0 ≤ μ 22 r) (h : R none (u2 (u2 μ 21 (r * 8 + k) i) 22 r ((Int.toNat (μ 22 r) ||| Int.toNat (1 * 2 ^ (i : Int).toNat) : Nat) : Int))) : Wp 28 0 [some (vR 19), some (vI r), some (vI i), some (vI k)] [] μ R := by
  have hp := pw_le (k := i) (by omega)
  refine seg 3 (show Wp 115 0 [some (vI r), some (vI k)] [] μ (fun rr μ' => Wp 28 5 [some (vR 19), some (vI r), some (vI i), some (vI k)] (rr.toList ++ []) μ' R) from ?_)
  refine s115t (by omega) ?_
  refine seg 1 (show (1 = 0 → Wp 28 31 [some (vR 19), some (vI r), some (vI i), some (vI k)] [] μ R) ∧ (¬ (1 = 0) → Wp 28 8 [some (vR 19), some (vI r), some (vI i), some (vI k)] [] μ R) from ⟨fun z => absurd z (by decide), fun _ => ?_⟩)
  refine seg 5 (show Wp 114 0 [some (vI r), some (vI k)] [] μ (fun rr μ' => Wp 28 17 [some (vR 19), some (vI r), some (vI i), some (vI k)] (rr.toList ++ [vR 21]) μ' R) from ?_)
  refine s114 (by omega) ?_
  refine seg 13 (show (0 ≤ (r * 8 + k) ∧ (r * 8 + k) < 64) ∧ (0 ≤ r ∧ r < 8) ∧ (0 ≤ 1 ∧ 0 ≤ i ∧ i < 31 ∧ 1 * 2 ^ (i : Int).toNat ≤ 2147483647) ∧ (0 ≤ (μ 22 r) ∧ 0 ≤ (1 * 2 ^ (i : Int).toNat)) ∧ (0 ≤ r ∧ r < 8) ∧ R none (u2 (u2 μ 21 (r * 8 + k) i) 22 r ((Int.toNat (μ 22 r) ||| Int.toNat (1 * 2 ^ (i : Int).toNat) : Nat) : Int)) from ⟨by omega, by omega, by omega, by omega, by omega, ?_⟩)
  first | exact h | (exfalso; omega)
theorem s11v_25 {μ : Mu} {R : Po} {r k : Int} (hb : 0 ≤ r ∧ r < 8 ∧ 0 ≤ k ∧ k < 8) (h : R (some (vI (μ 26 (r * 8 + k)))) μ) : Wp 11 0 [some (vR 25), some (vI r), some (vI k)] [] μ R := by
  refine seg 3 (show Wp 115 0 [some (vI r), some (vI k)] [] μ (fun rr μ' => Wp 11 5 [some (vR 25), some (vI r), some (vI k)] (rr.toList ++ []) μ' R) from ?_)
  refine s115t (by omega) ?_
  refine seg 1 (show (1 = 0 → Wp 11 21 [some (vR 25), some (vI r), some (vI k)] [] μ R) ∧ (¬ (1 = 0) → Wp 11 8 [some (vR 25), some (vI r), some (vI k)] [] μ R) from ⟨fun z => absurd z (by decide), fun _ => ?_⟩)
  refine seg 5 (show Wp 114 0 [some (vI r), some (vI k)] [] μ (fun rr μ' => Wp 11 17 [some (vR 25), some (vI r), some (vI k)] (rr.toList ++ [vR 26]) μ' R) from ?_)
  refine s114 (by omega) ?_
  refine seg 3 (show (0 ≤ (r * 8 + k) ∧ (r * 8 + k) < 64) ∧ R (some (vI (μ 26 (r * 8 + k)))) μ from ⟨by omega, ?_⟩)
  first | exact h | (exfalso; omega)
theorem s12v_25 {μ : Mu} {R : Po} {r k : Int} (hb : 0 ≤ r ∧ r < 8 ∧ 0 ≤ k ∧ k < 8) (h : R (some (vI (μ 27 (r * 8 + k)))) μ) : Wp 12 0 [some (vR 25), some (vI r), some (vI k)] [] μ R := by
  refine seg 3 (show Wp 115 0 [some (vI r), some (vI k)] [] μ (fun rr μ' => Wp 12 5 [some (vR 25), some (vI r), some (vI k)] (rr.toList ++ []) μ' R) from ?_)
  refine s115t (by omega) ?_
  refine seg 1 (show (1 = 0 → Wp 12 21 [some (vR 25), some (vI r), some (vI k)] [] μ R) ∧ (¬ (1 = 0) → Wp 12 8 [some (vR 25), some (vI r), some (vI k)] [] μ R) from ⟨fun z => absurd z (by decide), fun _ => ?_⟩)
  refine seg 5 (show Wp 114 0 [some (vI r), some (vI k)] [] μ (fun rr μ' => Wp 12 17 [some (vR 25), some (vI r), some (vI k)] (rr.toList ++ [vR 27]) μ' R) from ?_)
  refine s114 (by omega) ?_
  refine seg 3 (show (0 ≤ (r * 8 + k) ∧ (r * 8 + k) < 64) ∧ R (some (vI (μ 27 (r * 8 + k)))) μ from ⟨by omega, ?_⟩)
  first | exact h | (exfalso; omega)
theorem s7v_28 {μ : Mu} {R : Po} {r k : Int} (hb : 0 ≤ r ∧ r < 8 ∧ 0 ≤ k ∧ k < 8) (h : R (some (vI (μ 29 (r * 8 + k)))) μ) : Wp 7 0 [some (vR 28), some (vI r), some (vI k)] [] μ R := by
  refine seg 3 (show Wp 115 0 [some (vI r), some (vI k)] [] μ (fun rr μ' => Wp 7 5 [some (vR 28), some (vI r), some (vI k)] (rr.toList ++ []) μ' R) from ?_)
  refine s115t (by omega) ?_
  refine seg 1 (show (1 = 0 → Wp 7 21 [some (vR 28), some (vI r), some (vI k)] [] μ R) ∧ (¬ (1 = 0) → Wp 7 8 [some (vR 28), some (vI r), some (vI k)] [] μ R) from ⟨fun z => absurd z (by decide), fun _ => ?_⟩)
  refine seg 5 (show Wp 114 0 [some (vI r), some (vI k)] [] μ (fun rr μ' => Wp 7 17 [some (vR 28), some (vI r), some (vI k)] (rr.toList ++ [vR 29]) μ' R) from ?_)
  refine s114 (by omega) ?_
  refine seg 3 (show (0 ≤ (r * 8 + k) ∧ (r * 8 + k) < 64) ∧ R (some (vI (μ 29 (r * 8 + k)))) μ from ⟨by omega, ?_⟩)
  first | exact h | (exfalso; omega)
theorem s82v_32 {μ : Mu} {R : Po} {r k : Int} (hb : 0 ≤ r ∧ r < 8 ∧ 0 ≤ k ∧ k < 8) (h : R (some (vI (μ 33 (r * 8 + k)))) μ) : Wp 82 0 [some (vR 32), some (vI r), some (vI k)] [] μ R := by
  refine seg 3 (show Wp 115 0 [some (vI r), some (vI k)] [] μ (fun rr μ' => Wp 82 5 [some (vR 32), some (vI r), some (vI k)] (rr.toList ++ []) μ' R) from ?_)
  refine s115t (by omega) ?_
  refine seg 1 (show (1 = 0 → Wp 82 21 [some (vR 32), some (vI r), some (vI k)] [] μ R) ∧ (¬ (1 = 0) → Wp 82 8 [some (vR 32), some (vI r), some (vI k)] [] μ R) from ⟨fun z => absurd z (by decide), fun _ => ?_⟩)
  refine seg 5 (show Wp 114 0 [some (vI r), some (vI k)] [] μ (fun rr μ' => Wp 82 17 [some (vR 32), some (vI r), some (vI k)] (rr.toList ++ [vR 33]) μ' R) from ?_)
  refine s114 (by omega) ?_
  refine seg 3 (show (0 ≤ (r * 8 + k) ∧ (r * 8 + k) < 64) ∧ R (some (vI (μ 33 (r * 8 + k)))) μ from ⟨by omega, ?_⟩)
  first | exact h | (exfalso; omega)
theorem s83v_32 {μ : Mu} {R : Po} {r k : Int} (hb : 0 ≤ r ∧ r < 8 ∧ 0 ≤ k ∧ k < 8) (h : R (some (vI (μ 34 (r * 8 + k)))) μ) : Wp 83 0 [some (vR 32), some (vI r), some (vI k)] [] μ R := by
  refine seg 3 (show Wp 115 0 [some (vI r), some (vI k)] [] μ (fun rr μ' => Wp 83 5 [some (vR 32), some (vI r), some (vI k)] (rr.toList ++ []) μ' R) from ?_)
  refine s115t (by omega) ?_
  refine seg 1 (show (1 = 0 → Wp 83 21 [some (vR 32), some (vI r), some (vI k)] [] μ R) ∧ (¬ (1 = 0) → Wp 83 8 [some (vR 32), some (vI r), some (vI k)] [] μ R) from ⟨fun z => absurd z (by decide), fun _ => ?_⟩)
  refine seg 5 (show Wp 114 0 [some (vI r), some (vI k)] [] μ (fun rr μ' => Wp 83 17 [some (vR 32), some (vI r), some (vI k)] (rr.toList ++ [vR 34]) μ' R) from ?_)
  refine s114 (by omega) ?_
  refine seg 3 (show (0 ≤ (r * 8 + k) ∧ (r * 8 + k) < 64) ∧ R (some (vI (μ 34 (r * 8 + k)))) μ from ⟨by omega, ?_⟩)
  first | exact h | (exfalso; omega)
theorem s84v_32 {μ : Mu} {R : Po} {r k : Int} (hb : 0 ≤ r ∧ r < 8 ∧ 0 ≤ k ∧ k < 8) (h : R (some (vI (μ 35 (r * 8 + k)))) μ) : Wp 84 0 [some (vR 32), some (vI r), some (vI k)] [] μ R := by
  refine seg 3 (show Wp 115 0 [some (vI r), some (vI k)] [] μ (fun rr μ' => Wp 84 5 [some (vR 32), some (vI r), some (vI k)] (rr.toList ++ []) μ' R) from ?_)
  refine s115t (by omega) ?_
  refine seg 1 (show (1 = 0 → Wp 84 21 [some (vR 32), some (vI r), some (vI k)] [] μ R) ∧ (¬ (1 = 0) → Wp 84 8 [some (vR 32), some (vI r), some (vI k)] [] μ R) from ⟨fun z => absurd z (by decide), fun _ => ?_⟩)
  refine seg 5 (show Wp 114 0 [some (vI r), some (vI k)] [] μ (fun rr μ' => Wp 84 17 [some (vR 32), some (vI r), some (vI k)] (rr.toList ++ [vR 35]) μ' R) from ?_)
  refine s114 (by omega) ?_
  refine seg 3 (show (0 ≤ (r * 8 + k) ∧ (r * 8 + k) < 64) ∧ R (some (vI (μ 35 (r * 8 + k)))) μ from ⟨by omega, ?_⟩)
  first | exact h | (exfalso; omega)
theorem s82v_36 {μ : Mu} {R : Po} {r k : Int} (hb : 0 ≤ r ∧ r < 8 ∧ 0 ≤ k ∧ k < 8) (h : R (some (vI (μ 37 (r * 8 + k)))) μ) : Wp 82 0 [some (vR 36), some (vI r), some (vI k)] [] μ R := by
  refine seg 3 (show Wp 115 0 [some (vI r), some (vI k)] [] μ (fun rr μ' => Wp 82 5 [some (vR 36), some (vI r), some (vI k)] (rr.toList ++ []) μ' R) from ?_)
  refine s115t (by omega) ?_
  refine seg 1 (show (1 = 0 → Wp 82 21 [some (vR 36), some (vI r), some (vI k)] [] μ R) ∧ (¬ (1 = 0) → Wp 82 8 [some (vR 36), some (vI r), some (vI k)] [] μ R) from ⟨fun z => absurd z (by decide), fun _ => ?_⟩)
  refine seg 5 (show Wp 114 0 [some (vI r), some (vI k)] [] μ (fun rr μ' => Wp 82 17 [some (vR 36), some (vI r), some (vI k)] (rr.toList ++ [vR 37]) μ' R) from ?_)
  refine s114 (by omega) ?_
  refine seg 3 (show (0 ≤ (r * 8 + k) ∧ (r * 8 + k) < 64) ∧ R (some (vI (μ 37 (r * 8 + k)))) μ from ⟨by omega, ?_⟩)
  first | exact h | (exfalso; omega)
theorem s57_30 {μ : Mu} {R : Po} (h : R none (u2 (u2 (u2 μ 30 0 2) 30 1 0) 30 2 15)) : Wp 57 0 [some (vR 30)] [] μ R := by
  refine seg 10 (show R none (u2 (u2 (u2 μ 30 0 2) 30 1 0) 30 2 15) from ?_)
  first | exact h | (exfalso; omega)
theorem s60_30 {μ : Mu} {R : Po} (h : R (some (vI (μ 30 0))) μ) : Wp 60 0 [some (vR 30)] [] μ R := by
  refine seg 3 (show R (some (vI (μ 30 0))) μ from ?_)
  first | exact h | (exfalso; omega)
theorem s63_30 {μ : Mu} {R : Po} (h : R (some (vI (μ 30 1))) μ) : Wp 63 0 [some (vR 30)] [] μ R := by
  refine seg 3 (show R (some (vI (μ 30 1))) μ from ?_)
  first | exact h | (exfalso; omega)
theorem s66_30 {μ : Mu} {R : Po} (h : R (some (vI (μ 30 2))) μ) : Wp 66 0 [some (vR 30)] [] μ R := by
  refine seg 3 (show R (some (vI (μ 30 2))) μ from ?_)
  first | exact h | (exfalso; omega)
theorem s61_30 {μ : Mu} {R : Po} {n : Int} (h : R none (u2 μ 30 0 n)) : Wp 61 0 [some (vR 30), some (vI n)] [] μ R := by
  refine seg 4 (show R none (u2 μ 30 0 n) from ?_)
  first | exact h | (exfalso; omega)
theorem s62_30 {μ : Mu} {R : Po} {x : Int} (hy : 0 < μ 30 0 ∧ μ 30 0 ≤ x → R (some (vI 1)) μ) (hn : ¬ (0 < μ 30 0 ∧ μ 30 0 ≤ x) → R (some (vI 0)) μ) : Wp 62 0 [some (vR 30), some (vI x)] [] μ R := by
  refine seg 3 (show (μ 30 0 ≤ 0 → Wp 62 19 [some (vR 30), some (vI x)] [] μ R) ∧ (¬ (μ 30 0 ≤ 0) → Wp 62 7 [some (vR 30), some (vI x)] [] μ R) from ⟨fun c1 => ?_, fun c1 => ?_⟩)
  ·
    refine seg 2 (show (0 = 0 ∨ 0 = 1) ∧ R (some (vI 0)) μ from ⟨by decide, ?_⟩)
    first | exact hy (by omega) | exact hn (by omega)
  ·
    refine seg 4 (show (x < μ 30 0 → Wp 62 19 [some (vR 30), some (vI x)] [] μ R) ∧ (¬ (x < μ 30 0) → Wp 62 15 [some (vR 30), some (vI x)] [] μ R) from ⟨fun c2 => ?_, fun c2 => ?_⟩)
    ·
      refine seg 2 (show (0 = 0 ∨ 0 = 1) ∧ R (some (vI 0)) μ from ⟨by decide, ?_⟩)
      first | exact hy (by omega) | exact hn (by omega)
    ·
      refine seg 3 (show (1 = 0 ∨ 1 = 1) ∧ R (some (vI 1)) μ from ⟨by decide, ?_⟩)
      first | exact hy (by omega) | exact hn (by omega)
theorem s64_30 {μ : Mu} {R : Po} {r : Int} (hb : 0 ≤ r ∧ r < 8) (h0 : 0 ≤ μ 30 1) (hy : tb (μ 30 1) r → R (some (vI 1)) μ) (hn : ¬ tb (μ 30 1) r → R (some (vI 0)) μ) : Wp 64 0 [some (vR 30), some (vI r)] [] μ R := by
  have hs := sh_nn h0 r
  refine seg 8 (show (0 ≤ (μ 30 1) ∧ 0 ≤ r ∧ r < 31) ∧ (0 ≤ ((μ 30 1) / 2 ^ (r : Int).toNat) ∧ 0 ≤ 1) ∧ (¬ (((Int.toNat ((μ 30 1) / 2 ^ (r : Int).toNat) &&& Int.toNat 1 : Nat) : Int) = 1) → Wp 64 16 [some (vR 30), some (vI r)] [] μ R) ∧ (((Int.toNat ((μ 30 1) / 2 ^ (r : Int).toNat) &&& Int.toNat 1 : Nat) : Int) = 1 → Wp 64 12 [some (vR 30), some (vI r)] [] μ R) from ⟨by omega, by omega, fun c1 => ?_, fun c1 => ?_⟩)
  ·
    refine seg 2 (show (0 = 0 ∨ 0 = 1) ∧ R (some (vI 0)) μ from ⟨by decide, ?_⟩)
    first | exact hy ((tb_iff h0).mp (by assumption)) | exact hn (fun z => absurd ((tb_iff h0).mpr z) (by assumption)) | (exfalso; omega)
  ·
    refine seg 3 (show (1 = 0 ∨ 1 = 1) ∧ R (some (vI 1)) μ from ⟨by decide, ?_⟩)
    first | exact hy ((tb_iff h0).mp (by assumption)) | exact hn (fun z => absurd ((tb_iff h0).mpr z) (by assumption)) | (exfalso; omega)
theorem s67_30 {μ : Mu} {R : Po} {r : Int} (hb : 0 ≤ r ∧ r < 8) (h0 : 0 ≤ μ 30 2) (hy : tb (μ 30 2) r → R (some (vI 1)) μ) (hn : ¬ tb (μ 30 2) r → R (some (vI 0)) μ) : Wp 67 0 [some (vR 30), some (vI r)] [] μ R := by
  have hs := sh_nn h0 r
  refine seg 8 (show (0 ≤ (μ 30 2) ∧ 0 ≤ r ∧ r < 31) ∧ (0 ≤ ((μ 30 2) / 2 ^ (r : Int).toNat) ∧ 0 ≤ 1) ∧ (¬ (((Int.toNat ((μ 30 2) / 2 ^ (r : Int).toNat) &&& Int.toNat 1 : Nat) : Int) = 1) → Wp 67 16 [some (vR 30), some (vI r)] [] μ R) ∧ (((Int.toNat ((μ 30 2) / 2 ^ (r : Int).toNat) &&& Int.toNat 1 : Nat) : Int) = 1 → Wp 67 12 [some (vR 30), some (vI r)] [] μ R) from ⟨by omega, by omega, fun c1 => ?_, fun c1 => ?_⟩)
  ·
    refine seg 2 (show (0 = 0 ∨ 0 = 1) ∧ R (some (vI 0)) μ from ⟨by decide, ?_⟩)
    first | exact hy ((tb_iff h0).mp (by assumption)) | exact hn (fun z => absurd ((tb_iff h0).mpr z) (by assumption)) | (exfalso; omega)
  ·
    refine seg 3 (show (1 = 0 ∨ 1 = 1) ∧ R (some (vI 1)) μ from ⟨by decide, ?_⟩)
    first | exact hy ((tb_iff h0).mp (by assumption)) | exact hn (fun z => absurd ((tb_iff h0).mpr z) (by assumption)) | (exfalso; omega)
theorem s65_30 {μ : Mu} {R : Po} {r : Int} (hb : 0 ≤ r ∧ r < 8) (h0 : 0 ≤ μ 30 1) (h : R none (u2 μ 30 1 ((Int.toNat (μ 30 1) ^^^ Int.toNat (1 * 2 ^ (r : Int).toNat) : Nat) : Int))) : Wp 65 0 [some (vR 30), some (vI r)] [] μ R := by
  have hp := pw_le (k := r) hb
  refine seg 9 (show (0 ≤ 1 ∧ 0 ≤ r ∧ r < 31 ∧ 1 * 2 ^ (r : Int).toNat ≤ 2147483647) ∧ (0 ≤ (μ 30 1) ∧ 0 ≤ (1 * 2 ^ (r : Int).toNat)) ∧ R none (u2 μ 30 1 ((Int.toNat (μ 30 1) ^^^ Int.toNat (1 * 2 ^ (r : Int).toNat) : Nat) : Int)) from ⟨by omega, by omega, ?_⟩)
  first | exact h | (exfalso; omega)
theorem s68_30 {μ : Mu} {R : Po} {r : Int} (hb : 0 ≤ r ∧ r < 8) (h0 : 0 ≤ μ 30 2) (h : R none (u2 μ 30 2 ((Int.toNat (μ 30 2) ^^^ Int.toNat (1 * 2 ^ (r : Int).toNat) : Nat) : Int))) : Wp 68 0 [some (vR 30), some (vI r)] [] μ R := by
  have hp := pw_le (k := r) hb
  refine seg 9 (show (0 ≤ 1 ∧ 0 ≤ r ∧ r < 31 ∧ 1 * 2 ^ (r : Int).toNat ≤ 2147483647) ∧ (0 ≤ (μ 30 2) ∧ 0 ≤ (1 * 2 ^ (r : Int).toNat)) ∧ R none (u2 μ 30 2 ((Int.toNat (μ 30 2) ^^^ Int.toNat (1 * 2 ^ (r : Int).toNat) : Nat) : Int)) from ⟨by omega, by omega, ?_⟩)
  first | exact h | (exfalso; omega)
theorem s57_31 {μ : Mu} {R : Po} (h : R none (u2 (u2 (u2 μ 31 0 2) 31 1 0) 31 2 15)) : Wp 57 0 [some (vR 31)] [] μ R := by
  refine seg 10 (show R none (u2 (u2 (u2 μ 31 0 2) 31 1 0) 31 2 15) from ?_)
  first | exact h | (exfalso; omega)
theorem s60_31 {μ : Mu} {R : Po} (h : R (some (vI (μ 31 0))) μ) : Wp 60 0 [some (vR 31)] [] μ R := by
  refine seg 3 (show R (some (vI (μ 31 0))) μ from ?_)
  first | exact h | (exfalso; omega)
theorem s63_31 {μ : Mu} {R : Po} (h : R (some (vI (μ 31 1))) μ) : Wp 63 0 [some (vR 31)] [] μ R := by
  refine seg 3 (show R (some (vI (μ 31 1))) μ from ?_)
  first | exact h | (exfalso; omega)
theorem s66_31 {μ : Mu} {R : Po} (h : R (some (vI (μ 31 2))) μ) : Wp 66 0 [some (vR 31)] [] μ R := by
  refine seg 3 (show R (some (vI (μ 31 2))) μ from ?_)
  first | exact h | (exfalso; omega)
theorem s61_31 {μ : Mu} {R : Po} {n : Int} (h : R none (u2 μ 31 0 n)) : Wp 61 0 [some (vR 31), some (vI n)] [] μ R := by
  refine seg 4 (show R none (u2 μ 31 0 n) from ?_)
  first | exact h | (exfalso; omega)
theorem s62_31 {μ : Mu} {R : Po} {x : Int} (hy : 0 < μ 31 0 ∧ μ 31 0 ≤ x → R (some (vI 1)) μ) (hn : ¬ (0 < μ 31 0 ∧ μ 31 0 ≤ x) → R (some (vI 0)) μ) : Wp 62 0 [some (vR 31), some (vI x)] [] μ R := by
  refine seg 3 (show (μ 31 0 ≤ 0 → Wp 62 19 [some (vR 31), some (vI x)] [] μ R) ∧ (¬ (μ 31 0 ≤ 0) → Wp 62 7 [some (vR 31), some (vI x)] [] μ R) from ⟨fun c1 => ?_, fun c1 => ?_⟩)
  ·
    refine seg 2 (show (0 = 0 ∨ 0 = 1) ∧ R (some (vI 0)) μ from ⟨by decide, ?_⟩)
    first | exact hy (by omega) | exact hn (by omega)
  ·
    refine seg 4 (show (x < μ 31 0 → Wp 62 19 [some (vR 31), some (vI x)] [] μ R) ∧ (¬ (x < μ 31 0) → Wp 62 15 [some (vR 31), some (vI x)] [] μ R) from ⟨fun c2 => ?_, fun c2 => ?_⟩)
    ·
      refine seg 2 (show (0 = 0 ∨ 0 = 1) ∧ R (some (vI 0)) μ from ⟨by decide, ?_⟩)
      first | exact hy (by omega) | exact hn (by omega)
    ·
      refine seg 3 (show (1 = 0 ∨ 1 = 1) ∧ R (some (vI 1)) μ from ⟨by decide, ?_⟩)
      first | exact hy (by omega) | exact hn (by omega)
theorem s64_31 {μ : Mu} {R : Po} {r : Int} (hb : 0 ≤ r ∧ r < 8) (h0 : 0 ≤ μ 31 1) (hy : tb (μ 31 1) r → R (some (vI 1)) μ) (hn : ¬ tb (μ 31 1) r → R (some (vI 0)) μ) : Wp 64 0 [some (vR 31), some (vI r)] [] μ R := by
  have hs := sh_nn h0 r
  refine seg 8 (show (0 ≤ (μ 31 1) ∧ 0 ≤ r ∧ r < 31) ∧ (0 ≤ ((μ 31 1) / 2 ^ (r : Int).toNat) ∧ 0 ≤ 1) ∧ (¬ (((Int.toNat ((μ 31 1) / 2 ^ (r : Int).toNat) &&& Int.toNat 1 : Nat) : Int) = 1) → Wp 64 16 [some (vR 31), some (vI r)] [] μ R) ∧ (((Int.toNat ((μ 31 1) / 2 ^ (r : Int).toNat) &&& Int.toNat 1 : Nat) : Int) = 1 → Wp 64 12 [some (vR 31), some (vI r)] [] μ R) from ⟨by omega, by omega, fun c1 => ?_, fun c1 => ?_⟩)
  ·
    refine seg 2 (show (0 = 0 ∨ 0 = 1) ∧ R (some (vI 0)) μ from ⟨by decide, ?_⟩)
    first | exact hy ((tb_iff h0).mp (by assumption)) | exact hn (fun z => absurd ((tb_iff h0).mpr z) (by assumption)) | (exfalso; omega)
  ·
    refine seg 3 (show (1 = 0 ∨ 1 = 1) ∧ R (some (vI 1)) μ from ⟨by decide, ?_⟩)
    first | exact hy ((tb_iff h0).mp (by assumption)) | exact hn (fun z => absurd ((tb_iff h0).mpr z) (by assumption)) | (exfalso; omega)
theorem s67_31 {μ : Mu} {R : Po} {r : Int} (hb : 0 ≤ r ∧ r < 8) (h0 : 0 ≤ μ 31 2) (hy : tb (μ 31 2) r → R (some (vI 1)) μ) (hn : ¬ tb (μ 31 2) r → R (some (vI 0)) μ) : Wp 67 0 [some (vR 31), some (vI r)] [] μ R := by
  have hs := sh_nn h0 r
  refine seg 8 (show (0 ≤ (μ 31 2) ∧ 0 ≤ r ∧ r < 31) ∧ (0 ≤ ((μ 31 2) / 2 ^ (r : Int).toNat) ∧ 0 ≤ 1) ∧ (¬ (((Int.toNat ((μ 31 2) / 2 ^ (r : Int).toNat) &&& Int.toNat 1 : Nat) : Int) = 1) → Wp 67 16 [some (vR 31), some (vI r)] [] μ R) ∧ (((Int.toNat ((μ 31 2) / 2 ^ (r : Int).toNat) &&& Int.toNat 1 : Nat) : Int) = 1 → Wp 67 12 [some (vR 31), some (vI r)] [] μ R) from ⟨by omega, by omega, fun c1 => ?_, fun c1 => ?_⟩)
  ·
    refine seg 2 (show (0 = 0 ∨ 0 = 1) ∧ R (some (vI 0)) μ from ⟨by decide, ?_⟩)
    first | exact hy ((tb_iff h0).mp (by assumption)) | exact hn (fun z => absurd ((tb_iff h0).mpr z) (by assumption)) | (exfalso; omega)
  ·
    refine seg 3 (show (1 = 0 ∨ 1 = 1) ∧ R (some (vI 1)) μ from ⟨by decide, ?_⟩)
    first | exact hy ((tb_iff h0).mp (by assumption)) | exact hn (fun z => absurd ((tb_iff h0).mpr z) (by assumption)) | (exfalso; omega)
theorem s65_31 {μ : Mu} {R : Po} {r : Int} (hb : 0 ≤ r ∧ r < 8) (h0 : 0 ≤ μ 31 1) (h : R none (u2 μ 31 1 ((Int.toNat (μ 31 1) ^^^ Int.toNat (1 * 2 ^ (r : Int).toNat) : Nat) : Int))) : Wp 65 0 [some (vR 31), some (vI r)] [] μ R := by
  have hp := pw_le (k := r) hb
  refine seg 9 (show (0 ≤ 1 ∧ 0 ≤ r ∧ r < 31 ∧ 1 * 2 ^ (r : Int).toNat ≤ 2147483647) ∧ (0 ≤ (μ 31 1) ∧ 0 ≤ (1 * 2 ^ (r : Int).toNat)) ∧ R none (u2 μ 31 1 ((Int.toNat (μ 31 1) ^^^ Int.toNat (1 * 2 ^ (r : Int).toNat) : Nat) : Int)) from ⟨by omega, by omega, ?_⟩)
  first | exact h | (exfalso; omega)
theorem s68_31 {μ : Mu} {R : Po} {r : Int} (hb : 0 ≤ r ∧ r < 8) (h0 : 0 ≤ μ 31 2) (h : R none (u2 μ 31 2 ((Int.toNat (μ 31 2) ^^^ Int.toNat (1 * 2 ^ (r : Int).toNat) : Nat) : Int))) : Wp 68 0 [some (vR 31), some (vI r)] [] μ R := by
  have hp := pw_le (k := r) hb
  refine seg 9 (show (0 ≤ 1 ∧ 0 ≤ r ∧ r < 31 ∧ 1 * 2 ^ (r : Int).toNat ≤ 2147483647) ∧ (0 ≤ (μ 31 2) ∧ 0 ≤ (1 * 2 ^ (r : Int).toNat)) ∧ R none (u2 μ 31 2 ((Int.toNat (μ 31 2) ^^^ Int.toNat (1 * 2 ^ (r : Int).toNat) : Nat) : Int)) from ⟨by omega, by omega, ?_⟩)
  first | exact h | (exfalso; omega)
theorem s1 {μ : Mu} {R : Po} (h : R (some (vI (μ 40 1))) μ) : Wp 1 0 [some (vR 40)] [] μ R := by
  refine seg 3 (show R (some (vI (μ 40 1))) μ from ?_)
  first | exact h | (exfalso; omega)
theorem s2 {μ : Mu} {R : Po} (h : R none (u2 μ 40 1 0)) : Wp 2 0 [some (vR 40)] [] μ R := by
  refine seg 4 (show R none (u2 μ 40 1 0) from ?_)
  first | exact h | (exfalso; omega)
theorem s5 {μ : Mu} {R : Po} (hb : 0 < μ 40 1 ∧ μ 40 1 ≤ 10) (h : R (some (vI (μ 41 (μ 40 1 - 1)))) (u2 μ 40 1 (μ 40 1 - 1))) : Wp 5 0 [some (vR 40)] [] μ R := by
  refine seg 3 (show (0 < μ 40 1 → Wp 5 10 [some (vR 40)] [] μ R) ∧ (¬ (0 < μ 40 1) → Wp 5 7 [some (vR 40)] [] μ R) from ⟨fun c1 => ?_, fun c1 => ?_⟩)
  ·
    refine seg 12 (show iR ((μ 40 1) - 1) ∧ (0 ≤ ((μ 40 1) - 1) ∧ ((μ 40 1) - 1) < 10) ∧ R (some (vI (μ 41 ((μ 40 1) - 1)))) (u2 μ 40 1 ((μ 40 1) - 1)) from ⟨by omega, by omega, ?_⟩)
    first | exact h | (exfalso; omega)
  ·
    refine seg 2 (show R (some (vI (-9))) μ from ?_)
    first | exact h | (exfalso; omega)
theorem s70 {μ : Mu} {R : Po} (h : R (some (vI (μ 42 3))) μ) : Wp 70 0 [some (vR 42)] [] μ R := by
  refine seg 3 (show R (some (vI (μ 42 3))) μ from ?_)
  first | exact h | (exfalso; omega)
theorem s71 {μ : Mu} {R : Po} (h : R none (u2 μ 42 3 0)) : Wp 71 0 [some (vR 42)] [] μ R := by
  refine seg 4 (show R none (u2 μ 42 3 0) from ?_)
  first | exact h | (exfalso; omega)
theorem s72 {μ : Mu} {R : Po} {a b z : Int} (hb : 0 ≤ μ 42 3 ∧ μ 42 3 < 6) (hz : z = 0 ∨ z = 1) (h : R none (u2 (u2 (u2 (u2 μ 43 (μ 42 3) a) 44 (μ 42 3) b) 45 (μ 42 3) z) 42 3 (μ 42 3 + 1))) : Wp 72 0 [some (vR 42), some (vI a), some (vI b), some (vI z)] [] μ R := by
  refine seg 4 (show (6 ≤ μ 42 3 → Wp 72 49 [some (vR 42), some (vI a), some (vI b), some (vI z)] [] μ R) ∧ (¬ (6 ≤ μ 42 3) → Wp 72 9 [some (vR 42), some (vI a), some (vI b), some (vI z)] [] μ R) from ⟨fun c1 => ?_, fun c1 => ?_⟩)
  ·
    refine seg 1 (show R none μ from ?_)
    first | exact h | (exfalso; omega)
  ·
    refine seg 25 (show (0 ≤ (μ 42 3) ∧ (μ 42 3) < 6) ∧ (0 ≤ (μ 42 3) ∧ (μ 42 3) < 6) ∧ ((0 ≤ (μ 42 3) ∧ (μ 42 3) < 6) ∧ (z = 0 ∨ z = 1)) ∧ iR ((μ 42 3) + 1) ∧ R none (u2 (u2 (u2 (u2 μ 43 (μ 42 3) a) 44 (μ 42 3) b) 45 (μ 42 3) z) 42 3 ((μ 42 3) + 1)) from ⟨by omega, by omega, by omega, by omega, ?_⟩)
    first | exact h | (exfalso; omega)
theorem s75 {μ : Mu} {R : Po} (h : R (some (vI (μ 1 1))) μ) : Wp 75 0 [some (vR 1)] [] μ R := by
  refine seg 3 (show R (some (vI (μ 1 1))) μ from ?_)
  first | exact h | (exfalso; omega)
theorem s76 {μ : Mu} {R : Po} {v : Int} (hb : 0 ≤ μ 1 1 ∧ μ 1 1 < 120) (h : R none (u2 (u2 μ 2 (μ 1 1) v) 1 1 (μ 1 1 + 1))) : Wp 76 0 [some (vR 1), some (vI v)] [] μ R := by
  refine seg 4 (show (120 ≤ μ 1 1 → Wp 76 29 [some (vR 1), some (vI v)] [] μ R) ∧ (¬ (120 ≤ μ 1 1) → Wp 76 9 [some (vR 1), some (vI v)] [] μ R) from ⟨fun c1 => ?_, fun c1 => ?_⟩)
  ·
    refine seg 1 (show R none μ from ?_)
    first | exact h | (exfalso; omega)
  ·
    refine seg 13 (show (0 ≤ (μ 1 1) ∧ (μ 1 1) < 120) ∧ iR ((μ 1 1) + 1) ∧ R none (u2 (u2 μ 2 (μ 1 1) v) 1 1 ((μ 1 1) + 1)) from ⟨by omega, by omega, ?_⟩)
    first | exact h | (exfalso; omega)
theorem s77 {μ : Mu} {R : Po} (h : R none (u2 μ 1 1 0)) : Wp 77 0 [some (vR 1)] [] μ R := by
  refine seg 4 (show R none (u2 μ 1 1 0) from ?_)
  first | exact h | (exfalso; omega)
theorem s78 {μ : Mu} {R : Po} {i : Int} (hl : μ 1 1 ≤ 120) (hy : 0 ≤ i ∧ i < μ 1 1 → R (some (vI (μ 2 i))) μ) (hn : ¬ (0 ≤ i ∧ i < μ 1 1) → R (some (vI (-9))) μ) : Wp 78 0 [some (vR 1), some (vI i)] [] μ R := by
  refine seg 2 (show (i < 0 → Wp 78 21 [some (vR 1), some (vI i)] [] μ R) ∧ (¬ (i < 0) → Wp 78 4 [some (vR 1), some (vI i)] [] μ R) from ⟨fun c1 => ?_, fun c1 => ?_⟩)
  ·
    refine seg 2 (show R (some (vI (-9))) μ from ?_)
    first | exact hy (by omega) | exact hn (by omega)
  ·
    refine seg 4 (show (μ 1 1 ≤ i → Wp 78 21 [some (vR 1), some (vI i)] [] μ R) ∧ (¬ (μ 1 1 ≤ i) → Wp 78 12 [some (vR 1), some (vI i)] [] μ R) from ⟨fun c2 => ?_, fun c2 => ?_⟩)
    ·
      refine seg 2 (show R (some (vI (-9))) μ from ?_)
      first | exact hy (by omega) | exact hn (by omega)
    ·
      refine seg 6 (show (0 ≤ i ∧ i < 120) ∧ R (some (vI (μ 2 i))) μ from ⟨by omega, ?_⟩)
      first | exact hy (by omega) | exact hn (by omega)
end
section
/-! THE ABSTRACT SIDE: a history (how many, sizes, parents, letters), and what both programs make of it -/
abbrev Hi : Type := Int × (Int → Int) × (Int → Int → Int) × (Int → Int → Int)
def hN (G : Hi) : Int := G.1
def hS (G : Hi) (r : Int) : Int := G.2.1 r
def hP (G : Hi) (r w : Int) : Int := G.2.2.1 r w
def hL (G : Hi) (r k : Int) : Int := G.2.2.2 r k
def PaOK (r x : Int) : Prop := x = -9 ∨ (0 ≤ x ∧ x < r)
def HiOK (G : Hi) : Prop := 0 ≤ hN G ∧ hN G ≤ 8 ∧ ∀ r, 0 ≤ r → r < hN G → (0 ≤ hS G r ∧ hS G r ≤ 8) ∧ PaOK r (hP G r 0) ∧ PaOK r (hP G r 1) ∧ (hP G r 0 = -9 → hP G r 1 = -9)
def up1 (f : Int → Int) (j v : Int) : Int → Int := fun x => if x = j then v else f x
theorem up1_s {f : Int → Int} {j v : Int} : up1 f j v j = v := if_pos rfl
theorem up1_n {f : Int → Int} {j v x : Int} (h : x ≠ j) : up1 f j v x = f x := if_neg h
def mx (x y : Int) : Int := if x < y then y else x
/-- COMMON of the lines from i on and from j on -/
def cm (f g : Int → Int) (R C i j : Int) : Int :=
  if _h : i < R ∧ j < C then (if f i = g j then mx (mx (cm f g R C (i + 1) j) (cm f g R C i (j + 1))) (cm f g R C (i + 1) (j + 1) + 1) else mx (cm f g R C (i + 1) j) (cm f g R C i (j + 1))) else 0
termination_by (R - i).toNat + (C - j).toNat
decreasing_by all_goals omega
theorem cm_in {f g : Int → Int} {R C i j : Int} (h : i < R ∧ j < C) : cm f g R C i j = (if f i = g j then mx (mx (cm f g R C (i + 1) j) (cm f g R C i (j + 1))) (cm f g R C (i + 1) (j + 1) + 1) else mx (cm f g R C (i + 1) j) (cm f g R C i (j + 1))) := by
  rw [cm, dif_pos h]
theorem cm_out {f g : Int → Int} {R C i j : Int} (h : ¬ (i < R ∧ j < C)) : cm f g R C i j = 0 := by
  rw [cm, dif_neg h]
theorem cm_rg {f g : Int → Int} {R C : Int} : ∀ (n : Nat) (i j : Int), (R - i).toNat + (C - j).toNat ≤ n → 0 ≤ cm f g R C i j ∧ cm f g R C i j ≤ (R - i).toNat := by
  intro n
  induction n with
  | zero =>
    intro i j h
    rw [cm_out (by omega)]
    omega
  | succ n ih =>
    intro i j h
    by_cases hq : i < R ∧ j < C
    · have h1 := ih (i + 1) j (by omega)
      have h2 := ih i (j + 1) (by omega)
      have h3 := ih (i + 1) (j + 1) (by omega)
      rw [cm_in hq]
      unfold mx
      split <;> split <;> (try split) <;> omega
    · rw [cm_out hq]
      omega
/-- PAIRS: of the lines of the child, and which lines of the parent have one -/
def wk (f g : Int → Int) (R C : Int) : Nat → Int → Int → (Int → Int) → (Int → Int) → (Int → Int) × (Int → Int)
  | 0, _, _, P, I => (P, I)
  | n + 1, i, j, P, I =>
    if i < R ∧ j < C then
      if f i = g j ∧ cm f g R C i j = cm f g R C (i + 1) (j + 1) + 1 then wk f g R C n (i + 1) (j + 1) (up1 P j i) (up1 I i 1)
      else if cm f g R C i (j + 1) ≤ cm f g R C (i + 1) j then wk f g R C n (i + 1) j P I
      else wk f g R C n i (j + 1) P I
    else (P, I)
def prI (G : Hi) (r w : Int) : (Int → Int) × (Int → Int) := if hP G r w < 0 then (fun _ => -9, fun _ => 0) else wk (hL G (hP G r w)) (hL G r) (hS G (hP G r w)) (hS G r) 17 0 0 (fun _ => -9) (fun _ => 0)
def pr (G : Hi) (r w k : Int) : Int := (prI G r w).1 k
def ip (G : Hi) (r i : Int) : Int := (prI G r 0).2 i
def cmA (G : Hi) (r w : Int) : Int := if hP G r w < 0 then -9 else cm (hL G (hP G r w)) (hL G r) (hS G (hP G r w)) (hS G r) 0 0
theorem wk_rg {f g : Int → Int} {R C : Int} : ∀ (n : Nat) (i j : Int) (P I : Int → Int), 0 ≤ i → 0 ≤ j → (∀ x, P x = -9 ∨ (0 ≤ P x ∧ P x < R ∧ 0 ≤ x ∧ x < C)) → (∀ x, I x = 0 ∨ I x = 1) → (∀ x, (wk f g R C n i j P I).1 x = -9 ∨ (0 ≤ (wk f g R C n i j P I).1 x ∧ (wk f g R C n i j P I).1 x < R ∧ 0 ≤ x ∧ x < C)) ∧ (∀ x, (wk f g R C n i j P I).2 x = 0 ∨ (wk f g R C n i j P I).2 x = 1) := by
  intro n
  induction n with
  | zero => intro i j P I _ _ h1 h2; exact ⟨h1, h2⟩
  | succ n ih =>
    intro i j P I hi hj h1 h2
    rw [wk]
    split
    · rename_i hq
      split
      · refine ih _ _ _ _ (by omega) (by omega) (fun x => ?_) (fun x => ?_)
        · by_cases hx : x = j
          · subst hx; rw [up1_s]; exact Or.inr ⟨hi, hq.1, hj, hq.2⟩
          · rw [up1_n hx]; exact h1 x
        · by_cases hx : x = i
          · subst hx; rw [up1_s]; exact Or.inr rfl
          · rw [up1_n hx]; exact h2 x
      · split
        · exact ih _ _ _ _ (by omega) hj h1 h2
        · exact ih _ _ _ _ hi (by omega) h1 h2
    · exact ⟨h1, h2⟩
theorem pr_rg (G : Hi) (r w k : Int) : pr G r w k = -9 ∨ (0 ≤ pr G r w k ∧ pr G r w k < hS G (hP G r w) ∧ 0 ≤ k ∧ k < hS G r) := by
  unfold pr prI
  split
  · exact Or.inl rfl
  · exact (wk_rg 17 0 0 _ _ (by decide) (by decide) (fun _ => Or.inl rfl) (fun _ => Or.inl rfl)).1 k
theorem ip_rg (G : Hi) (r i : Int) : ip G r i = 0 ∨ ip G r i = 1 := by
  unfold ip prI
  split
  · exact Or.inl rfl
  · exact (wk_rg 17 0 0 _ _ (by decide) (by decide) (fun _ => Or.inl rfl) (fun _ => Or.inl rfl)).2 i
theorem pr_no {G : Hi} {r w k : Int} (h : hP G r w < 0) : pr G r w k = -9 := by
  unfold pr prI; rw [if_pos h]
/-- a row of lines that are alike and have no pairs -/
def rc (G : Hi) (r i j : Int) : Prop := (i < hS G (hP G r 0) ∧ j < hS G r) ∧ hL G (hP G r 0) i = hL G r j ∧ ip G r i = 0 ∧ pr G r 0 j = -9
noncomputable def rl (G : Hi) (r i j : Int) : Int :=
  @dite _ (rc G r i j) (Classical.propDecidable _) (fun _h => 1 + rl G r (i + 1) (j + 1)) (fun _ => 0)
termination_by (hS G (hP G r 0) - i).toNat
decreasing_by
  have := _h.1.1
  omega
theorem rl_in {G : Hi} {r i j : Int} (h : rc G r i j) : rl G r i j = 1 + rl G r (i + 1) (j + 1) := by
  rw [rl, dif_pos h]
theorem rl_out {G : Hi} {r i j : Int} (h : ¬ rc G r i j) : rl G r i j = 0 := by
  rw [rl, dif_neg h]
theorem rl_rg {G : Hi} {r : Int} : ∀ (n : Nat) (i j : Int), (hS G (hP G r 0) - i).toNat ≤ n → 0 ≤ rl G r i j ∧ rl G r i j ≤ (hS G (hP G r 0) - i).toNat ∧ (0 < rl G r i j → j + rl G r i j ≤ hS G r) := by
  intro n
  induction n with
  | zero =>
    intro i j h
    by_cases hq : rc G r i j
    · have := hq.1.1; omega
    · rw [rl_out hq]; omega
  | succ n ih =>
    intro i j h
    by_cases hq : rc G r i j
    · have h1 := ih (i + 1) (j + 1) (by have := hq.1.1; omega)
      have h2 := hq.1
      rw [rl_in hq]
      omega
    · rw [rl_out hq]; omega
/-- the longest row with the line k, so far: its length, and the parent's line -/
def stM (k : Int) (q : Int × Int) (i j n : Int) : Int × Int := if j ≤ k ∧ k < j + n ∧ q.1 < n then (n, i + k - j) else q
noncomputable def rowM (G : Hi) (r k i : Int) : Nat → Int × Int → Int × Int
  | 0, q => q
  | j + 1, q => stM k (rowM G r k i j q) i j (rl G r i j)
noncomputable def allM (G : Hi) (r k : Int) (m : Nat) : Nat → Int × Int → Int × Int
  | 0, q => q
  | i + 1, q => rowM G r k i m (allM G r k m i q)
noncomputable def mv (G : Hi) (r k : Int) : Int × Int := if hP G r 0 < 0 then (0, -9) else allM G r k (hS G r).toNat (hS G (hP G r 0)).toNat (0, -9)
abbrev Se : Type := Int × Int × Int
def SeOK (s : Se) : Prop := (0 ≤ s.1 ∧ s.1 ≤ 4) ∧ (0 ≤ s.2.1 ∧ s.2.1 < 256) ∧ (0 ≤ s.2.2 ∧ s.2.2 < 16)
noncomputable def mvB (G : Hi) (s : Se) (r k : Int) : Int := if 0 < s.1 ∧ s.1 ≤ (mv G r k).1 then (mv G r k).2 else -9
/-- the last pair ahead of k -/
def ahd (G : Hi) (r : Int) : Nat → Int × Int
  | 0 => (-1, -1)
  | k + 1 => if pr G r 0 k = -9 then ahd G r k else ((k : Int), pr G r 0 k)
noncomputable def gp (G : Hi) (r : Int) (k : Nat) : Int :=
  @ite _ ((ahd G r k).2 + k - (ahd G r k).1 < hS G (hP G r 0) ∧ ∀ i, (ahd G r k).2 + 1 ≤ i → i ≤ (ahd G r k).2 + k - (ahd G r k).1 → ip G r i = 0) (Classical.propDecidable _) ((ahd G r k).2 + k - (ahd G r k).1) (-9)
/-- what a rule gives: the parent's number by 8 and the line, or -9 -/
noncomputable def gv (G : Hi) (s : Se) (rule r k : Int) : Int :=
  if rule = 0 then (if pr G r 0 k = -9 then -9 else hP G r 0 * 8 + pr G r 0 k)
  else if rule = 1 then (if pr G r 1 k = -9 then -9 else hP G r 1 * 8 + pr G r 1 k)
  else if rule = 2 then (if hP G r 0 < 0 ∨ mvB G s r k = -9 then -9 else hP G r 0 * 8 + mvB G s r k)
  else (if hP G r 0 < 0 ∨ ¬ tb s.2.1 r ∨ gp G r k.toNat = -9 then -9 else hP G r 0 * 8 + gp G r k.toNat)
noncomputable def ruF (G : Hi) (s : Se) (r k : Int) : Nat → Int → Int
  | 0, _ => -9
  | n + 1, rule => if tb s.2.2 rule ∧ 0 ≤ gv G s rule r k then rule else ruF G s r k n (rule + 1)
noncomputable def ru (G : Hi) (s : Se) (r k : Int) : Int := ruF G s r k 4 0
/-- the origin's number (revision by 8, and the line), and the steps -/
noncomputable def og (G : Hi) (s : Se) (r k : Int) : Int × Int :=
  @dite _ (0 ≤ ru G s r k ∧ 0 ≤ gv G s (ru G s r k) r k / 8 ∧ gv G s (ru G s r k) r k / 8 < r) (Classical.propDecidable _) (fun _h => ((og G s (gv G s (ru G s r k) r k / 8) (gv G s (ru G s r k) r k % 8)).1, (og G s (gv G s (ru G s r k) r k / 8) (gv G s (ru G s r k) r k % 8)).2 + 1)) (fun _ => (r * 8 + k, 0))
termination_by r.toNat
decreasing_by all_goals omega
end
section
/-! the class's history, and the rows over it -/
def GC (G : Hi) (μ : Mu) : Prop := HiOK G ∧ μ 8 0 = hN G ∧ ∀ r, 0 ≤ r → r < hN G → μ 10 r = hS G r ∧ μ 9 (r * 2 + 0) = hP G r 0 ∧ μ 9 (r * 2 + 1) = hP G r 1 ∧ ∀ k, 0 ≤ k → k < hS G r → μ 11 (r * 8 + k) = hL G r k
theorem GC.fr {G : Hi} {μ μ' : Mu} (h : GC G μ) (h8 : μ' 8 = μ 8) (h9 : μ' 9 = μ 9) (h10 : μ' 10 = μ 10) (h11 : μ' 11 = μ 11) : GC G μ' := by
  unfold GC
  rw [h8, h9, h10, h11]
  exact h
theorem u2_ne {μ : Mu} {p q : Nat} {i v : Int} (h : q ≠ p) : u2 μ p i v q = μ q := if_neg h
theorem u2_at {μ : Mu} {p : Nat} {i v : Int} : u2 μ p i v p = up1 (μ p) i v := if_pos rfl
theorem HiOK.n {G : Hi} (h : HiOK G) : 0 ≤ hN G ∧ hN G ≤ 8 := ⟨h.1, h.2.1⟩
theorem HiOK.s {G : Hi} (h : HiOK G) {r : Int} (hr : 0 ≤ r ∧ r < hN G) : 0 ≤ hS G r ∧ hS G r ≤ 8 := (h.2.2 r hr.1 hr.2).1
theorem HiOK.p {G : Hi} (h : HiOK G) {r w : Int} (hr : 0 ≤ r ∧ r < hN G) (hw : w = 0 ∨ w = 1) : PaOK r (hP G r w) := by
  rcases hw with rfl | rfl
  · exact (h.2.2 r hr.1 hr.2).2.1
  · exact (h.2.2 r hr.1 hr.2).2.2.1
theorem HiOK.pv {G : Hi} (h : HiOK G) {r w : Int} (hr : 0 ≤ r ∧ r < hN G) (hw : w = 0 ∨ w = 1) (hp : hP G r w ≠ -9) : 0 ≤ hP G r w ∧ hP G r w < r ∧ hP G r w < hN G := by
  rcases h.p hr hw with h1 | h1
  · exact absurd h1 hp
  · omega
theorem g43 {G : Hi} {μ : Mu} {R : Po} (hc : GC G μ) (h : R (some (vI (hN G))) μ) : Wp 43 0 [some (vR 8)] [] μ R := s43_8 (by rw [hc.2.1]; exact h)
theorem g44 {G : Hi} {μ : Mu} {R : Po} {r : Int} (hc : GC G μ) (hy : 0 ≤ r ∧ r < hN G → R (some (vI 1)) μ) (hn : ¬ (0 ≤ r ∧ r < hN G) → R (some (vI 0)) μ) : Wp 44 0 [some (vR 8), some (vI r)] [] μ R := by
  have h1 := hc.2.1; have h2 := hc.1.n
  exact s44_8 (fun z => hy (by omega)) (fun z => hn (by omega))
theorem g45 {G : Hi} {μ : Mu} {R : Po} {r k : Int} (hc : GC G μ) (hy : 0 ≤ r ∧ r < hN G ∧ 0 ≤ k ∧ k < hS G r → R (some (vI 1)) μ) (hn : ¬ (0 ≤ r ∧ r < hN G ∧ 0 ≤ k ∧ k < hS G r) → R (some (vI 0)) μ) : Wp 45 0 [some (vR 8), some (vI r), some (vI k)] [] μ R := by
  have h1 := hc.2.1; have h2 := hc.1.n
  refine s45_8 (fun z => hy ?_) (fun z => hn (fun y => z ?_))
  · have := (hc.2.2 r (by omega) (by omega)).1
    omega
  · have := (hc.2.2 r (by omega) (by omega)).1
    omega
theorem g46 {G : Hi} {μ : Mu} {R : Po} {r : Int} (hc : GC G μ) (hr : 0 ≤ r ∧ r < hN G) (h : R (some (vI (hS G r))) μ) : Wp 46 0 [some (vR 8), some (vI r)] [] μ R := by
  have h1 := hc.2.1; have h2 := hc.1.n
  exact s46v_8 (by omega) (by rw [(hc.2.2 r hr.1 hr.2).1]; exact h)
theorem g46n {G : Hi} {μ : Mu} {R : Po} {r : Int} (hc : GC G μ) (hr : r < 0) (h : R (some (vI 0)) μ) : Wp 46 0 [some (vR 8), some (vI r)] [] μ R := s46n_8 (by omega) h
theorem g47 {G : Hi} {μ : Mu} {R : Po} {r w : Int} (hc : GC G μ) (hr : 0 ≤ r ∧ r < hN G) (hw : w = 0 ∨ w = 1) (h : R (some (vI (hP G r w))) μ) : Wp 47 0 [some (vR 8), some (vI r), some (vI w)] [] μ R := by
  have h1 := hc.2.1; have h2 := hc.1.n
  rcases hw with rfl | rfl
  · exact s47v_8 (by omega) (by rw [(hc.2.2 r hr.1 hr.2).2.1]; exact h)
  · exact s47v_8 (by omega) (by rw [(hc.2.2 r hr.1 hr.2).2.2.1]; exact h)
theorem g47n {G : Hi} {μ : Mu} {R : Po} {r w : Int} (hc : GC G μ) (hr : ¬ (0 ≤ r ∧ r < hN G)) (h : R (some (vI (-9))) μ) : Wp 47 0 [some (vR 8), some (vI r), some (vI w)] [] μ R := by
  have h1 := hc.2.1
  exact s47n_8 (by omega) h
theorem g48 {G : Hi} {μ : Mu} {R : Po} {r k : Int} (hc : GC G μ) (hr : 0 ≤ r ∧ r < hN G) (hk : 0 ≤ k ∧ k < hS G r) (h : R (some (vI (hL G r k))) μ) : Wp 48 0 [some (vR 8), some (vI r), some (vI k)] [] μ R := by
  have h1 := hc.2.1; have h2 := hc.1.n; have h3 := hc.1.s hr; have h4 := hc.2.2 r hr.1 hr.2
  exact s48v_8 (by omega) (by rw [h4.2.2.2 k hk.1 hk.2]; exact h)
/-- the table of COMMON, filled from its end to i, j -/
def Tab (T : Int → Int) (f g : Int → Int) (R C i j : Int) : Prop := ∀ a b, a ≤ R → 0 ≤ b → b ≤ C → (i < a ∨ (a = i ∧ j < b)) → T (a * 9 + b) = cm f g R C a b
theorem Tab.step {T f g : Int → Int} {R C i j v : Int} (h : Tab T f g R C i j) (hj : 0 ≤ j ∧ j ≤ 8) (hC : C ≤ 8) (hv : v = cm f g R C i j) : Tab (up1 T (i * 9 + j) v) f g R C i (j + -1) := by
  intro a b ha hb hbC hq
  by_cases he : a = i ∧ b = j
  · obtain ⟨rfl, rfl⟩ := he
    rw [up1_s]; exact hv
  · rw [up1_n (by omega)]
    exact h a b ha hb hbC (by omega)
theorem Tab.row {T f g : Int → Int} {R C i : Int} (h : Tab T f g R C i (-1)) : Tab T f g R C (i + -1) C := by
  intro a b ha hb hbC hq
  exact h a b ha hb hbC (by omega)
theorem tab_v1 {T f g : Int → Int} {R C i j : Int} (h : Tab T f g R C i j) (hq : i < R ∧ j < C) (hj : 0 ≤ j) (he : f i = g j) :
    (if (if T ((i + 1) * 9 + j) < T (i * 9 + (j + 1)) then T (i * 9 + (j + 1)) else T ((i + 1) * 9 + j)) < T ((i + 1) * 9 + (j + 1)) + 1 then T ((i + 1) * 9 + (j + 1)) + 1 else (if T ((i + 1) * 9 + j) < T (i * 9 + (j + 1)) then T (i * 9 + (j + 1)) else T ((i + 1) * 9 + j))) = cm f g R C i j := by
  rw [h (i + 1) j (by omega) (by omega) (by omega) (by omega), h i (j + 1) (by omega) (by omega) (by omega) (by omega), h (i + 1) (j + 1) (by omega) (by omega) (by omega) (by omega), cm_in hq, if_pos he]
  rfl
theorem tab_v2 {T f g : Int → Int} {R C i j : Int} (h : Tab T f g R C i j) (hq : i < R ∧ j < C) (hj : 0 ≤ j) (he : ¬ f i = g j) :
    (if T ((i + 1) * 9 + j) < T (i * 9 + (j + 1)) then T (i * 9 + (j + 1)) else T ((i + 1) * 9 + j)) = cm f g R C i j := by
  rw [h (i + 1) j (by omega) (by omega) (by omega) (by omega), h i (j + 1) (by omega) (by omega) (by omega) (by omega), cm_in hq, if_neg he]
  rfl
theorem tab_rg {T f g : Int → Int} {R C i j a b : Int} (h : Tab T f g R C i j) (hR : R ≤ 8) (ha : 0 ≤ a ∧ a ≤ R) (hb : 0 ≤ b ∧ b ≤ C) (hq : i < a ∨ (a = i ∧ j < b)) : 0 ≤ T (a * 9 + b) ∧ T (a * 9 + b) ≤ 8 := by
  rw [h a b ha.2 hb.1 hb.2 hq]
  have := cm_rg (f := f) (g := g) (R := R) (C := C) _ a b (Nat.le_refl _)
  omega
theorem l24a_13 {G : Hi} {p r : Int} {R : Po} {μ0 : Mu} (hc0 : GC G μ0) (hp : 0 ≤ p ∧ p < hN G) (hr : 0 ≤ r ∧ r < hN G) {i : Int} (hi : 0 ≤ i ∧ i ≤ hS G p) (hk : ∀ (μ : Mu) (o8 o9 : Option PV), (∀ q, q ≠ 18 → μ q = μ0 q) → Tab (μ 18) (hL G p) (hL G r) (hS G p) (hS G r) i (-1) → Wp 24 145 [some (vR 13), some (vR 8), some (vI p), some (vI r), some (vI (hS G p)), some (vI (hS G r)), some (vI i), some (vI (-1)), o8, o9] [] μ R) : ∀ (n : Nat) (j : Int) (μ : Mu) (o8 o9 : Option PV), j + 1 = n → j ≤ hS G r → (∀ q, q ≠ 18 → μ q = μ0 q) → Tab (μ 18) (hL G p) (hL G r) (hS G p) (hS G r) i j → Wp 24 27 [some (vR 13), some (vR 8), some (vI p), some (vI r), some (vI (hS G p)), some (vI (hS G r)), some (vI i), some (vI j), o8, o9] [] μ R := by
  intro n
  induction n with
  | zero =>
    intro j μ o8 o9 hn hj hF hT
    have hc := hc0.fr (hF 8 (by decide)) (hF 9 (by decide)) (hF 10 (by decide)) (hF 11 (by decide))
    have h2 := hc.1.n
    have hsp := hc.1.s hp
    have hsr := hc.1.s hr
    have hj1 : j = -1 := by omega
    subst hj1
    refine seg 2 (show (-1 < 0 → Wp 24 145 [some (vR 13), some (vR 8), some (vI p), some (vI r), some (vI (hS G p)), some (vI (hS G r)), some (vI i), some (vI (-1)), o8, o9] [] μ R) ∧ (¬ (-1 < 0) → Wp 24 32 [some (vR 13), some (vR 8), some (vI p), some (vI r), some (vI (hS G p)), some (vI (hS G r)), some (vI i), some (vI (-1)), o8, o9] [] μ R) from ⟨fun _ => hk μ o8 o9 hF hT, fun z => absurd z (by decide)⟩)
  | succ n ih =>
    intro j μ o8 o9 hn hj hF hT
    have hc := hc0.fr (hF 8 (by decide)) (hF 9 (by decide)) (hF 10 (by decide)) (hF 11 (by decide))
    have h2 := hc.1.n
    have hsp := hc.1.s hp
    have hsr := hc.1.s hr
    refine seg 2 (show (j < 0 → Wp 24 145 [some (vR 13), some (vR 8), some (vI p), some (vI r), some (vI (hS G p)), some (vI (hS G r)), some (vI i), some (vI j), o8, o9] [] μ R) ∧ (¬ (j < 0) → Wp 24 32 [some (vR 13), some (vR 8), some (vI p), some (vI r), some (vI (hS G p)), some (vI (hS G r)), some (vI i), some (vI j), o8, o9] [] μ R) from ⟨fun c1 => ?_, fun c1 => ?_⟩)
    ·
      exfalso; omega
    ·
      refine seg 5 (show (hS G p ≤ i → Wp 24 129 [some (vR 13), some (vR 8), some (vI p), some (vI r), some (vI (hS G p)), some (vI (hS G r)), some (vI i), some (vI j), some (vI 0), o9] [] μ R) ∧ (¬ (hS G p ≤ i) → Wp 24 42 [some (vR 13), some (vR 8), some (vI p), some (vI r), some (vI (hS G p)), some (vI (hS G r)), some (vI i), some (vI j), some (vI 0), o9] [] μ R) from ⟨fun c2 => ?_, fun c2 => ?_⟩)
      ·
        refine seg 5 (show Wp 26 0 [some (vR 13), some (vI i), some (vI j), some (vI 0)] [] μ (fun rr μ' => Wp 24 139 [some (vR 13), some (vR 8), some (vI p), some (vI r), some (vI (hS G p)), some (vI (hS G r)), some (vI i), some (vI j), some (vI 0), o9] (rr.toList ++ []) μ' R) from ?_)
        refine s26v_13 (by omega) ?_
        refine seg 2 (show iR (j + (-1)) ∧ Wp 24 27 [some (vR 13), some (vR 8), some (vI p), some (vI r), some (vI (hS G p)), some (vI (hS G r)), some (vI i), some (vI (j + (-1))), some (vI 0), o9] [] (u2 μ 18 (i * 9 + j) 0) R from ⟨by omega, ?_⟩)
        refine ih (j + -1) _ _ _ (by omega) (by omega) (fun q hq => by rw [u2_ne hq]; exact hF q hq) ?_
        rw [u2_at]
        exact hT.step (by omega) (by omega) (by first | exact tab_v1 hT (by omega) (by omega) (by assumption) | exact tab_v2 hT (by omega) (by omega) (by assumption) | (rw [cm_out (by omega)]))
      ·
        refine seg 3 (show (hS G r ≤ j → Wp 24 129 [some (vR 13), some (vR 8), some (vI p), some (vI r), some (vI (hS G p)), some (vI (hS G r)), some (vI i), some (vI j), some (vI 0), o9] [] μ R) ∧ (¬ (hS G r ≤ j) → Wp 24 49 [some (vR 13), some (vR 8), some (vI p), some (vI r), some (vI (hS G p)), some (vI (hS G r)), some (vI i), some (vI j), some (vI 0), o9] [] μ R) from ⟨fun c3 => ?_, fun c3 => ?_⟩)
        ·
          refine seg 5 (show Wp 26 0 [some (vR 13), some (vI i), some (vI j), some (vI 0)] [] μ (fun rr μ' => Wp 24 139 [some (vR 13), some (vR 8), some (vI p), some (vI r), some (vI (hS G p)), some (vI (hS G r)), some (vI i), some (vI j), some (vI 0), o9] (rr.toList ++ []) μ' R) from ?_)
          refine s26v_13 (by omega) ?_
          refine seg 2 (show iR (j + (-1)) ∧ Wp 24 27 [some (vR 13), some (vR 8), some (vI p), some (vI r), some (vI (hS G p)), some (vI (hS G r)), some (vI i), some (vI (j + (-1))), some (vI 0), o9] [] (u2 μ 18 (i * 9 + j) 0) R from ⟨by omega, ?_⟩)
          refine ih (j + -1) _ _ _ (by omega) (by omega) (fun q hq => by rw [u2_ne hq]; exact hF q hq) ?_
          rw [u2_at]
          exact hT.step (by omega) (by omega) (by first | exact tab_v1 hT (by omega) (by omega) (by assumption) | exact tab_v2 hT (by omega) (by omega) (by assumption) | (rw [cm_out (by omega)]))
        ·
          refine seg 4 (show Wp 48 0 [some (vR 8), some (vI p), some (vI i)] [] μ (fun rr μ' => Wp 24 56 [some (vR 13), some (vR 8), some (vI p), some (vI r), some (vI (hS G p)), some (vI (hS G r)), some (vI i), some (vI j), some (vI 0), o9] (rr.toList ++ []) μ' R) from ?_)
          refine g48 hc (by omega) (by omega) ?_
          refine seg 4 (show Wp 48 0 [some (vR 8), some (vI r), some (vI j)] [] μ (fun rr μ' => Wp 24 63 [some (vR 13), some (vR 8), some (vI p), some (vI r), some (vI (hS G p)), some (vI (hS G r)), some (vI i), some (vI j), some (vI 0), o9] (rr.toList ++ [vI (hL G p i)]) μ' R) from ?_)
          refine g48 hc (by omega) (by omega) ?_
          refine seg 1 (show (¬ (hL G p i = hL G r j) → Wp 24 70 [some (vR 13), some (vR 8), some (vI p), some (vI r), some (vI (hS G p)), some (vI (hS G r)), some (vI i), some (vI j), some (vI 0), o9] [] μ R) ∧ (hL G p i = hL G r j → Wp 24 66 [some (vR 13), some (vR 8), some (vI p), some (vI r), some (vI (hS G p)), some (vI (hS G r)), some (vI i), some (vI j), some (vI 0), o9] [] μ R) from ⟨fun c4 => ?_, fun c4 => ?_⟩)
          ·
            refine seg 8 (show iR (i + 1) ∧ Wp 25 0 [some (vR 13), some (vI (i + 1)), some (vI j)] [] μ (fun rr μ' => Wp 24 83 [some (vR 13), some (vR 8), some (vI p), some (vI r), some (vI (hS G p)), some (vI (hS G r)), some (vI i), some (vI j), some (vI 0), some (vI 0)] (rr.toList ++ []) μ' R) from ⟨by omega, ?_⟩)
            refine s25v_13 (by omega) ?_
            refine seg 6 (show iR (j + 1) ∧ Wp 25 0 [some (vR 13), some (vI i), some (vI (j + 1))] [] μ (fun rr μ' => Wp 24 93 [some (vR 13), some (vR 8), some (vI p), some (vI r), some (vI (hS G p)), some (vI (hS G r)), some (vI i), some (vI j), some (vI 0), some (vI 0)] (rr.toList ++ [vI (μ 18 ((i + 1) * 9 + j))]) μ' R) from ⟨by omega, ?_⟩)
            refine s25v_13 (by omega) ?_
            refine seg 4 (show 0 ≤ 4 ∧ (0 = 0 → Wp 24 125 [some (vR 13), some (vR 8), some (vI p), some (vI r), some (vI (hS G p)), some (vI (hS G r)), some (vI i), some (vI j), some (vI (if μ 18 ((i + 1) * 9 + j) < μ 18 (i * 9 + (j + 1)) then μ 18 (i * 9 + (j + 1)) else μ 18 ((i + 1) * 9 + j) : Int)), some (vI 0)] [] μ R) ∧ (¬ (0 = 0) → Wp 24 103 [some (vR 13), some (vR 8), some (vI p), some (vI r), some (vI (hS G p)), some (vI (hS G r)), some (vI i), some (vI j), some (vI (if μ 18 ((i + 1) * 9 + j) < μ 18 (i * 9 + (j + 1)) then μ 18 (i * 9 + (j + 1)) else μ 18 ((i + 1) * 9 + j) : Int)), some (vI 0)] [] μ R) from ⟨by decide, fun _ => ?_, fun z => absurd z (by decide)⟩)
            refine seg 7 (show Wp 26 0 [some (vR 13), some (vI i), some (vI j), some (vI (if μ 18 ((i + 1) * 9 + j) < μ 18 (i * 9 + (j + 1)) then μ 18 (i * 9 + (j + 1)) else μ 18 ((i + 1) * 9 + j) : Int))] [] μ (fun rr μ' => Wp 24 139 [some (vR 13), some (vR 8), some (vI p), some (vI r), some (vI (hS G p)), some (vI (hS G r)), some (vI i), some (vI j), some (vI (if μ 18 ((i + 1) * 9 + j) < μ 18 (i * 9 + (j + 1)) then μ 18 (i * 9 + (j + 1)) else μ 18 ((i + 1) * 9 + j) : Int)), some (vI 0)] (rr.toList ++ []) μ' R) from ?_)
            refine s26v_13 (by omega) ?_
            refine seg 2 (show iR (j + (-1)) ∧ Wp 24 27 [some (vR 13), some (vR 8), some (vI p), some (vI r), some (vI (hS G p)), some (vI (hS G r)), some (vI i), some (vI (j + (-1))), some (vI (if μ 18 ((i + 1) * 9 + j) < μ 18 (i * 9 + (j + 1)) then μ 18 (i * 9 + (j + 1)) else μ 18 ((i + 1) * 9 + j) : Int)), some (vI 0)] [] (u2 μ 18 (i * 9 + j) (if μ 18 ((i + 1) * 9 + j) < μ 18 (i * 9 + (j + 1)) then μ 18 (i * 9 + (j + 1)) else μ 18 ((i + 1) * 9 + j) : Int)) R from ⟨by omega, ?_⟩)
            refine ih (j + -1) _ _ _ (by omega) (by omega) (fun q hq => by rw [u2_ne hq]; exact hF q hq) ?_
            rw [u2_at]
            exact hT.step (by omega) (by omega) (by first | exact tab_v1 hT (by omega) (by omega) (by assumption) | exact tab_v2 hT (by omega) (by omega) (by assumption) | (rw [cm_out (by omega)]))
          ·
            refine seg 9 (show iR (i + 1) ∧ Wp 25 0 [some (vR 13), some (vI (i + 1)), some (vI j)] [] μ (fun rr μ' => Wp 24 83 [some (vR 13), some (vR 8), some (vI p), some (vI r), some (vI (hS G p)), some (vI (hS G r)), some (vI i), some (vI j), some (vI 0), some (vI 1)] (rr.toList ++ []) μ' R) from ⟨by omega, ?_⟩)
            refine s25v_13 (by omega) ?_
            refine seg 6 (show iR (j + 1) ∧ Wp 25 0 [some (vR 13), some (vI i), some (vI (j + 1))] [] μ (fun rr μ' => Wp 24 93 [some (vR 13), some (vR 8), some (vI p), some (vI r), some (vI (hS G p)), some (vI (hS G r)), some (vI i), some (vI j), some (vI 0), some (vI 1)] (rr.toList ++ [vI (μ 18 ((i + 1) * 9 + j))]) μ' R) from ⟨by omega, ?_⟩)
            refine s25v_13 (by omega) ?_
            refine seg 4 (show 0 ≤ 4 ∧ (1 = 0 → Wp 24 125 [some (vR 13), some (vR 8), some (vI p), some (vI r), some (vI (hS G p)), some (vI (hS G r)), some (vI i), some (vI j), some (vI (if μ 18 ((i + 1) * 9 + j) < μ 18 (i * 9 + (j + 1)) then μ 18 (i * 9 + (j + 1)) else μ 18 ((i + 1) * 9 + j) : Int)), some (vI 1)] [] μ R) ∧ (¬ (1 = 0) → Wp 24 103 [some (vR 13), some (vR 8), some (vI p), some (vI r), some (vI (hS G p)), some (vI (hS G r)), some (vI i), some (vI j), some (vI (if μ 18 ((i + 1) * 9 + j) < μ 18 (i * 9 + (j + 1)) then μ 18 (i * 9 + (j + 1)) else μ 18 ((i + 1) * 9 + j) : Int)), some (vI 1)] [] μ R) from ⟨by decide, fun z => absurd z (by decide), fun _ => ?_⟩)
            refine seg 9 (show iR (i + 1) ∧ iR (j + 1) ∧ Wp 25 0 [some (vR 13), some (vI (i + 1)), some (vI (j + 1))] [] μ (fun rr μ' => Wp 24 117 [some (vR 13), some (vR 8), some (vI p), some (vI r), some (vI (hS G p)), some (vI (hS G r)), some (vI i), some (vI j), some (vI (if μ 18 ((i + 1) * 9 + j) < μ 18 (i * 9 + (j + 1)) then μ 18 (i * 9 + (j + 1)) else μ 18 ((i + 1) * 9 + j) : Int)), some (vI 1)] (rr.toList ++ [vI (if μ 18 ((i + 1) * 9 + j) < μ 18 (i * 9 + (j + 1)) then μ 18 (i * 9 + (j + 1)) else μ 18 ((i + 1) * 9 + j) : Int)]) μ' R) from ⟨by omega, by omega, ?_⟩)
            refine s25v_13 (by omega) ?_
            refine seg 10 (show iR ((μ 18 ((i + 1) * 9 + (j + 1))) + 1) ∧ 0 ≤ 4 ∧ Wp 26 0 [some (vR 13), some (vI i), some (vI j), some (vI (if (if μ 18 ((i + 1) * 9 + j) < μ 18 (i * 9 + (j + 1)) then μ 18 (i * 9 + (j + 1)) else μ 18 ((i + 1) * 9 + j) : Int) < (μ 18 ((i + 1) * 9 + (j + 1))) + 1 then (μ 18 ((i + 1) * 9 + (j + 1))) + 1 else (if μ 18 ((i + 1) * 9 + j) < μ 18 (i * 9 + (j + 1)) then μ 18 (i * 9 + (j + 1)) else μ 18 ((i + 1) * 9 + j) : Int) : Int))] [] μ (fun rr μ' => Wp 24 139 [some (vR 13), some (vR 8), some (vI p), some (vI r), some (vI (hS G p)), some (vI (hS G r)), some (vI i), some (vI j), some (vI (if (if μ 18 ((i + 1) * 9 + j) < μ 18 (i * 9 + (j + 1)) then μ 18 (i * 9 + (j + 1)) else μ 18 ((i + 1) * 9 + j) : Int) < (μ 18 ((i + 1) * 9 + (j + 1))) + 1 then (μ 18 ((i + 1) * 9 + (j + 1))) + 1 else (if μ 18 ((i + 1) * 9 + j) < μ 18 (i * 9 + (j + 1)) then μ 18 (i * 9 + (j + 1)) else μ 18 ((i + 1) * 9 + j) : Int) : Int)), some (vI 1)] (rr.toList ++ []) μ' R) from ⟨by have := tab_rg (a := i + 1) (b := j + 1) hT (by omega) (by omega) (by omega) (by omega); omega, by decide, ?_⟩)
            refine s26v_13 (by omega) ?_
            refine seg 2 (show iR (j + (-1)) ∧ Wp 24 27 [some (vR 13), some (vR 8), some (vI p), some (vI r), some (vI (hS G p)), some (vI (hS G r)), some (vI i), some (vI (j + (-1))), some (vI (if (if μ 18 ((i + 1) * 9 + j) < μ 18 (i * 9 + (j + 1)) then μ 18 (i * 9 + (j + 1)) else μ 18 ((i + 1) * 9 + j) : Int) < (μ 18 ((i + 1) * 9 + (j + 1))) + 1 then (μ 18 ((i + 1) * 9 + (j + 1))) + 1 else (if μ 18 ((i + 1) * 9 + j) < μ 18 (i * 9 + (j + 1)) then μ 18 (i * 9 + (j + 1)) else μ 18 ((i + 1) * 9 + j) : Int) : Int)), some (vI 1)] [] (u2 μ 18 (i * 9 + j) (if (if μ 18 ((i + 1) * 9 + j) < μ 18 (i * 9 + (j + 1)) then μ 18 (i * 9 + (j + 1)) else μ 18 ((i + 1) * 9 + j) : Int) < (μ 18 ((i + 1) * 9 + (j + 1))) + 1 then (μ 18 ((i + 1) * 9 + (j + 1))) + 1 else (if μ 18 ((i + 1) * 9 + j) < μ 18 (i * 9 + (j + 1)) then μ 18 (i * 9 + (j + 1)) else μ 18 ((i + 1) * 9 + j) : Int) : Int)) R from ⟨by omega, ?_⟩)
            refine ih (j + -1) _ _ _ (by omega) (by omega) (fun q hq => by rw [u2_ne hq]; exact hF q hq) ?_
            rw [u2_at]
            exact hT.step (by omega) (by omega) (by first | exact tab_v1 hT (by omega) (by omega) (by assumption) | exact tab_v2 hT (by omega) (by omega) (by assumption) | (rw [cm_out (by omega)]))
theorem l24b_13 {G : Hi} {p r : Int} {R : Po} {μ0 : Mu} (hc0 : GC G μ0) (hp : 0 ≤ p ∧ p < hN G) (hr : 0 ≤ r ∧ r < hN G) (hk : ∀ (μ : Mu), (∀ q, q ≠ 18 → μ q = μ0 q) → Tab (μ 18) (hL G p) (hL G r) (hS G p) (hS G r) (-1) (hS G r) → R none μ) : ∀ (n : Nat) (i : Int) (μ : Mu) (o7 o8 o9 : Option PV), i + 1 = n → i ≤ hS G p → (∀ q, q ≠ 18 → μ q = μ0 q) → Tab (μ 18) (hL G p) (hL G r) (hS G p) (hS G r) i (hS G r) → Wp 24 18 [some (vR 13), some (vR 8), some (vI p), some (vI r), some (vI (hS G p)), some (vI (hS G r)), some (vI i), o7, o8, o9] [] μ R := by
  intro n
  induction n with
  | zero =>
    intro i μ o7 o8 o9 hn hi hF hT
    have hc := hc0.fr (hF 8 (by decide)) (hF 9 (by decide)) (hF 10 (by decide)) (hF 11 (by decide))
    have h2 := hc.1.n
    have hsp := hc.1.s hp
    have hsr := hc.1.s hr
    refine seg 2 (show (i < 0 → Wp 24 151 [some (vR 13), some (vR 8), some (vI p), some (vI r), some (vI (hS G p)), some (vI (hS G r)), some (vI i), o7, o8, o9] [] μ R) ∧ (¬ (i < 0) → Wp 24 23 [some (vR 13), some (vR 8), some (vI p), some (vI r), some (vI (hS G p)), some (vI (hS G r)), some (vI i), o7, o8, o9] [] μ R) from ⟨fun c1 => ?_, fun c1 => ?_⟩)
    ·
      refine seg 1 (show R none μ from ?_)
      first | (obtain rfl : i = -1 := (by omega); exact hk μ hF hT) | (exfalso; omega)
    ·
      refine seg 2 (show Wp 24 27 [some (vR 13), some (vR 8), some (vI p), some (vI r), some (vI (hS G p)), some (vI (hS G r)), some (vI i), some (vI (hS G r)), o8, o9] [] μ R from ?_)
      exfalso; omega
  | succ n ih =>
    intro i μ o7 o8 o9 hn hi hF hT
    have hc := hc0.fr (hF 8 (by decide)) (hF 9 (by decide)) (hF 10 (by decide)) (hF 11 (by decide))
    have h2 := hc.1.n
    have hsp := hc.1.s hp
    have hsr := hc.1.s hr
    refine seg 2 (show (i < 0 → Wp 24 151 [some (vR 13), some (vR 8), some (vI p), some (vI r), some (vI (hS G p)), some (vI (hS G r)), some (vI i), o7, o8, o9] [] μ R) ∧ (¬ (i < 0) → Wp 24 23 [some (vR 13), some (vR 8), some (vI p), some (vI r), some (vI (hS G p)), some (vI (hS G r)), some (vI i), o7, o8, o9] [] μ R) from ⟨fun c2 => ?_, fun c2 => ?_⟩)
    ·
      refine seg 1 (show R none μ from ?_)
      first | (obtain rfl : i = -1 := (by omega); exact hk μ hF hT) | (exfalso; omega)
    ·
      refine seg 2 (show Wp 24 27 [some (vR 13), some (vR 8), some (vI p), some (vI r), some (vI (hS G p)), some (vI (hS G r)), some (vI i), some (vI (hS G r)), o8, o9] [] μ R from ?_)
      refine l24a_13 hc0 hp hr (i := i) (by omega) (fun μ o8 o9 hF hT => ?_) (hS G r + 1).toNat (hS G r) μ o8 o9 (by omega) (Int.le_refl _) hF hT
      refine seg 2 (show iR (i + (-1)) ∧ Wp 24 18 [some (vR 13), some (vR 8), some (vI p), some (vI r), some (vI (hS G p)), some (vI (hS G r)), some (vI (i + (-1))), some (vI (-1)), o8, o9] [] μ R from ⟨by omega, ?_⟩)
      exact ih (i + -1) μ _ _ _ (by omega) (by omega) hF hT.row
theorem s24_13 {G : Hi} {p r : Int} {R : Po} {μ : Mu} (hc : GC G μ) (hp : 0 ≤ p ∧ p < hN G) (hr : 0 ≤ r ∧ r < hN G) (hk : ∀ (μ2 : Mu), (∀ q, q ≠ 18 → μ2 q = μ q) → Tab (μ2 18) (hL G p) (hL G r) (hS G p) (hS G r) (-1) (hS G r) → R none μ2) : Wp 24 0 [some (vR 13), some (vR 8), some (vI p), some (vI r), none, none, none, none, none, none] [] μ R := by
  have h2 := hc.1.n
  have hsp := hc.1.s hp
  have hsr := hc.1.s hr
  refine seg 3 (show Wp 46 0 [some (vR 8), some (vI p)] [] μ (fun rr μ' => Wp 24 5 [some (vR 13), some (vR 8), some (vI p), some (vI r), none, none, none, none, none, none] (rr.toList ++ []) μ' R) from ?_)
  refine g46 hc (by omega) ?_
  refine seg 4 (show Wp 46 0 [some (vR 8), some (vI r)] [] μ (fun rr μ' => Wp 24 12 [some (vR 13), some (vR 8), some (vI p), some (vI r), some (vI (hS G p)), none, none, none, none, none] (rr.toList ++ []) μ' R) from ?_)
  refine g46 hc (by omega) ?_
  refine seg 3 (show Wp 24 18 [some (vR 13), some (vR 8), some (vI p), some (vI r), some (vI (hS G p)), some (vI (hS G r)), some (vI (hS G p)), none, none, none] [] μ R from ?_)
  exact l24b_13 hc hp hr hk (hS G p + 1).toNat (hS G p) μ _ _ _ (by omega) (Int.le_refl _) (fun _ _ => rfl) (fun a b h1 _ h3 h4 => (by exfalso; omega))
theorem l24a_19 {G : Hi} {p r : Int} {R : Po} {μ0 : Mu} (hc0 : GC G μ0) (hp : 0 ≤ p ∧ p < hN G) (hr : 0 ≤ r ∧ r < hN G) {i : Int} (hi : 0 ≤ i ∧ i ≤ hS G p) (hk : ∀ (μ : Mu) (o8 o9 : Option PV), (∀ q, q ≠ 24 → μ q = μ0 q) → Tab (μ 24) (hL G p) (hL G r) (hS G p) (hS G r) i (-1) → Wp 24 145 [some (vR 19), some (vR 8), some (vI p), some (vI r), some (vI (hS G p)), some (vI (hS G r)), some (vI i), some (vI (-1)), o8, o9] [] μ R) : ∀ (n : Nat) (j : Int) (μ : Mu) (o8 o9 : Option PV), j + 1 = n → j ≤ hS G r → (∀ q, q ≠ 24 → μ q = μ0 q) → Tab (μ 24) (hL G p) (hL G r) (hS G p) (hS G r) i j → Wp 24 27 [some (vR 19), some (vR 8), some (vI p), some (vI r), some (vI (hS G p)), some (vI (hS G r)), some (vI i), some (vI j), o8, o9] [] μ R := by
  intro n
  induction n with
  | zero =>
    intro j μ o8 o9 hn hj hF hT
    have hc := hc0.fr (hF 8 (by decide)) (hF 9 (by decide)) (hF 10 (by decide)) (hF 11 (by decide))
    have h2 := hc.1.n
    have hsp := hc.1.s hp
    have hsr := hc.1.s hr
    have hj1 : j = -1 := by omega
    subst hj1
    refine seg 2 (show (-1 < 0 → Wp 24 145 [some (vR 19), some (vR 8), some (vI p), some (vI r), some (vI (hS G p)), some (vI (hS G r)), some (vI i), some (vI (-1)), o8, o9] [] μ R) ∧ (¬ (-1 < 0) → Wp 24 32 [some (vR 19), some (vR 8), some (vI p), some (vI r), some (vI (hS G p)), some (vI (hS G r)), some (vI i), some (vI (-1)), o8, o9] [] μ R) from ⟨fun _ => hk μ o8 o9 hF hT, fun z => absurd z (by decide)⟩)
  | succ n ih =>
    intro j μ o8 o9 hn hj hF hT
    have hc := hc0.fr (hF 8 (by decide)) (hF 9 (by decide)) (hF 10 (by decide)) (hF 11 (by decide))
    have h2 := hc.1.n
    have hsp := hc.1.s hp
    have hsr := hc.1.s hr
    refine seg 2 (show (j < 0 → Wp 24 145 [some (vR 19), some (vR 8), some (vI p), some (vI r), some (vI (hS G p)), some (vI (hS G r)), some (vI i), some (vI j), o8, o9] [] μ R) ∧ (¬ (j < 0) → Wp 24 32 [some (vR 19), some (vR 8), some (vI p), some (vI r), some (vI (hS G p)), some (vI (hS G r)), some (vI i), some (vI j), o8, o9] [] μ R) from ⟨fun c1 => ?_, fun c1 => ?_⟩)
    ·
      exfalso; omega
    ·
      refine seg 5 (show (hS G p ≤ i → Wp 24 129 [some (vR 19), some (vR 8), some (vI p), some (vI r), some (vI (hS G p)), some (vI (hS G r)), some (vI i), some (vI j), some (vI 0), o9] [] μ R) ∧ (¬ (hS G p ≤ i) → Wp 24 42 [some (vR 19), some (vR 8), some (vI p), some (vI r), some (vI (hS G p)), some (vI (hS G r)), some (vI i), some (vI j), some (vI 0), o9] [] μ R) from ⟨fun c2 => ?_, fun c2 => ?_⟩)
      ·
        refine seg 5 (show Wp 26 0 [some (vR 19), some (vI i), some (vI j), some (vI 0)] [] μ (fun rr μ' => Wp 24 139 [some (vR 19), some (vR 8), some (vI p), some (vI r), some (vI (hS G p)), some (vI (hS G r)), some (vI i), some (vI j), some (vI 0), o9] (rr.toList ++ []) μ' R) from ?_)
        refine s26v_19 (by omega) ?_
        refine seg 2 (show iR (j + (-1)) ∧ Wp 24 27 [some (vR 19), some (vR 8), some (vI p), some (vI r), some (vI (hS G p)), some (vI (hS G r)), some (vI i), some (vI (j + (-1))), some (vI 0), o9] [] (u2 μ 24 (i * 9 + j) 0) R from ⟨by omega, ?_⟩)
        refine ih (j + -1) _ _ _ (by omega) (by omega) (fun q hq => by rw [u2_ne hq]; exact hF q hq) ?_
        rw [u2_at]
        exact hT.step (by omega) (by omega) (by first | exact tab_v1 hT (by omega) (by omega) (by assumption) | exact tab_v2 hT (by omega) (by omega) (by assumption) | (rw [cm_out (by omega)]))
      ·
        refine seg 3 (show (hS G r ≤ j → Wp 24 129 [some (vR 19), some (vR 8), some (vI p), some (vI r), some (vI (hS G p)), some (vI (hS G r)), some (vI i), some (vI j), some (vI 0), o9] [] μ R) ∧ (¬ (hS G r ≤ j) → Wp 24 49 [some (vR 19), some (vR 8), some (vI p), some (vI r), some (vI (hS G p)), some (vI (hS G r)), some (vI i), some (vI j), some (vI 0), o9] [] μ R) from ⟨fun c3 => ?_, fun c3 => ?_⟩)
        ·
          refine seg 5 (show Wp 26 0 [some (vR 19), some (vI i), some (vI j), some (vI 0)] [] μ (fun rr μ' => Wp 24 139 [some (vR 19), some (vR 8), some (vI p), some (vI r), some (vI (hS G p)), some (vI (hS G r)), some (vI i), some (vI j), some (vI 0), o9] (rr.toList ++ []) μ' R) from ?_)
          refine s26v_19 (by omega) ?_
          refine seg 2 (show iR (j + (-1)) ∧ Wp 24 27 [some (vR 19), some (vR 8), some (vI p), some (vI r), some (vI (hS G p)), some (vI (hS G r)), some (vI i), some (vI (j + (-1))), some (vI 0), o9] [] (u2 μ 24 (i * 9 + j) 0) R from ⟨by omega, ?_⟩)
          refine ih (j + -1) _ _ _ (by omega) (by omega) (fun q hq => by rw [u2_ne hq]; exact hF q hq) ?_
          rw [u2_at]
          exact hT.step (by omega) (by omega) (by first | exact tab_v1 hT (by omega) (by omega) (by assumption) | exact tab_v2 hT (by omega) (by omega) (by assumption) | (rw [cm_out (by omega)]))
        ·
          refine seg 4 (show Wp 48 0 [some (vR 8), some (vI p), some (vI i)] [] μ (fun rr μ' => Wp 24 56 [some (vR 19), some (vR 8), some (vI p), some (vI r), some (vI (hS G p)), some (vI (hS G r)), some (vI i), some (vI j), some (vI 0), o9] (rr.toList ++ []) μ' R) from ?_)
          refine g48 hc (by omega) (by omega) ?_
          refine seg 4 (show Wp 48 0 [some (vR 8), some (vI r), some (vI j)] [] μ (fun rr μ' => Wp 24 63 [some (vR 19), some (vR 8), some (vI p), some (vI r), some (vI (hS G p)), some (vI (hS G r)), some (vI i), some (vI j), some (vI 0), o9] (rr.toList ++ [vI (hL G p i)]) μ' R) from ?_)
          refine g48 hc (by omega) (by omega) ?_
          refine seg 1 (show (¬ (hL G p i = hL G r j) → Wp 24 70 [some (vR 19), some (vR 8), some (vI p), some (vI r), some (vI (hS G p)), some (vI (hS G r)), some (vI i), some (vI j), some (vI 0), o9] [] μ R) ∧ (hL G p i = hL G r j → Wp 24 66 [some (vR 19), some (vR 8), some (vI p), some (vI r), some (vI (hS G p)), some (vI (hS G r)), some (vI i), some (vI j), some (vI 0), o9] [] μ R) from ⟨fun c4 => ?_, fun c4 => ?_⟩)
          ·
            refine seg 8 (show iR (i + 1) ∧ Wp 25 0 [some (vR 19), some (vI (i + 1)), some (vI j)] [] μ (fun rr μ' => Wp 24 83 [some (vR 19), some (vR 8), some (vI p), some (vI r), some (vI (hS G p)), some (vI (hS G r)), some (vI i), some (vI j), some (vI 0), some (vI 0)] (rr.toList ++ []) μ' R) from ⟨by omega, ?_⟩)
            refine s25v_19 (by omega) ?_
            refine seg 6 (show iR (j + 1) ∧ Wp 25 0 [some (vR 19), some (vI i), some (vI (j + 1))] [] μ (fun rr μ' => Wp 24 93 [some (vR 19), some (vR 8), some (vI p), some (vI r), some (vI (hS G p)), some (vI (hS G r)), some (vI i), some (vI j), some (vI 0), some (vI 0)] (rr.toList ++ [vI (μ 24 ((i + 1) * 9 + j))]) μ' R) from ⟨by omega, ?_⟩)
            refine s25v_19 (by omega) ?_
            refine seg 4 (show 0 ≤ 4 ∧ (0 = 0 → Wp 24 125 [some (vR 19), some (vR 8), some (vI p), some (vI r), some (vI (hS G p)), some (vI (hS G r)), some (vI i), some (vI j), some (vI (if μ 24 ((i + 1) * 9 + j) < μ 24 (i * 9 + (j + 1)) then μ 24 (i * 9 + (j + 1)) else μ 24 ((i + 1) * 9 + j) : Int)), some (vI 0)] [] μ R) ∧ (¬ (0 = 0) → Wp 24 103 [some (vR 19), some (vR 8), some (vI p), some (vI r), some (vI (hS G p)), some (vI (hS G r)), some (vI i), some (vI j), some (vI (if μ 24 ((i + 1) * 9 + j) < μ 24 (i * 9 + (j + 1)) then μ 24 (i * 9 + (j + 1)) else μ 24 ((i + 1) * 9 + j) : Int)), some (vI 0)] [] μ R) from ⟨by decide, fun _ => ?_, fun z => absurd z (by decide)⟩)
            refine seg 7 (show Wp 26 0 [some (vR 19), some (vI i), some (vI j), some (vI (if μ 24 ((i + 1) * 9 + j) < μ 24 (i * 9 + (j + 1)) then μ 24 (i * 9 + (j + 1)) else μ 24 ((i + 1) * 9 + j) : Int))] [] μ (fun rr μ' => Wp 24 139 [some (vR 19), some (vR 8), some (vI p), some (vI r), some (vI (hS G p)), some (vI (hS G r)), some (vI i), some (vI j), some (vI (if μ 24 ((i + 1) * 9 + j) < μ 24 (i * 9 + (j + 1)) then μ 24 (i * 9 + (j + 1)) else μ 24 ((i + 1) * 9 + j) : Int)), some (vI 0)] (rr.toList ++ []) μ' R) from ?_)
            refine s26v_19 (by omega) ?_
            refine seg 2 (show iR (j + (-1)) ∧ Wp 24 27 [some (vR 19), some (vR 8), some (vI p), some (vI r), some (vI (hS G p)), some (vI (hS G r)), some (vI i), some (vI (j + (-1))), some (vI (if μ 24 ((i + 1) * 9 + j) < μ 24 (i * 9 + (j + 1)) then μ 24 (i * 9 + (j + 1)) else μ 24 ((i + 1) * 9 + j) : Int)), some (vI 0)] [] (u2 μ 24 (i * 9 + j) (if μ 24 ((i + 1) * 9 + j) < μ 24 (i * 9 + (j + 1)) then μ 24 (i * 9 + (j + 1)) else μ 24 ((i + 1) * 9 + j) : Int)) R from ⟨by omega, ?_⟩)
            refine ih (j + -1) _ _ _ (by omega) (by omega) (fun q hq => by rw [u2_ne hq]; exact hF q hq) ?_
            rw [u2_at]
            exact hT.step (by omega) (by omega) (by first | exact tab_v1 hT (by omega) (by omega) (by assumption) | exact tab_v2 hT (by omega) (by omega) (by assumption) | (rw [cm_out (by omega)]))
          ·
            refine seg 9 (show iR (i + 1) ∧ Wp 25 0 [some (vR 19), some (vI (i + 1)), some (vI j)] [] μ (fun rr μ' => Wp 24 83 [some (vR 19), some (vR 8), some (vI p), some (vI r), some (vI (hS G p)), some (vI (hS G r)), some (vI i), some (vI j), some (vI 0), some (vI 1)] (rr.toList ++ []) μ' R) from ⟨by omega, ?_⟩)
            refine s25v_19 (by omega) ?_
            refine seg 6 (show iR (j + 1) ∧ Wp 25 0 [some (vR 19), some (vI i), some (vI (j + 1))] [] μ (fun rr μ' => Wp 24 93 [some (vR 19), some (vR 8), some (vI p), some (vI r), some (vI (hS G p)), some (vI (hS G r)), some (vI i), some (vI j), some (vI 0), some (vI 1)] (rr.toList ++ [vI (μ 24 ((i + 1) * 9 + j))]) μ' R) from ⟨by omega, ?_⟩)
            refine s25v_19 (by omega) ?_
            refine seg 4 (show 0 ≤ 4 ∧ (1 = 0 → Wp 24 125 [some (vR 19), some (vR 8), some (vI p), some (vI r), some (vI (hS G p)), some (vI (hS G r)), some (vI i), some (vI j), some (vI (if μ 24 ((i + 1) * 9 + j) < μ 24 (i * 9 + (j + 1)) then μ 24 (i * 9 + (j + 1)) else μ 24 ((i + 1) * 9 + j) : Int)), some (vI 1)] [] μ R) ∧ (¬ (1 = 0) → Wp 24 103 [some (vR 19), some (vR 8), some (vI p), some (vI r), some (vI (hS G p)), some (vI (hS G r)), some (vI i), some (vI j), some (vI (if μ 24 ((i + 1) * 9 + j) < μ 24 (i * 9 + (j + 1)) then μ 24 (i * 9 + (j + 1)) else μ 24 ((i + 1) * 9 + j) : Int)), some (vI 1)] [] μ R) from ⟨by decide, fun z => absurd z (by decide), fun _ => ?_⟩)
            refine seg 9 (show iR (i + 1) ∧ iR (j + 1) ∧ Wp 25 0 [some (vR 19), some (vI (i + 1)), some (vI (j + 1))] [] μ (fun rr μ' => Wp 24 117 [some (vR 19), some (vR 8), some (vI p), some (vI r), some (vI (hS G p)), some (vI (hS G r)), some (vI i), some (vI j), some (vI (if μ 24 ((i + 1) * 9 + j) < μ 24 (i * 9 + (j + 1)) then μ 24 (i * 9 + (j + 1)) else μ 24 ((i + 1) * 9 + j) : Int)), some (vI 1)] (rr.toList ++ [vI (if μ 24 ((i + 1) * 9 + j) < μ 24 (i * 9 + (j + 1)) then μ 24 (i * 9 + (j + 1)) else μ 24 ((i + 1) * 9 + j) : Int)]) μ' R) from ⟨by omega, by omega, ?_⟩)
            refine s25v_19 (by omega) ?_
            refine seg 10 (show iR ((μ 24 ((i + 1) * 9 + (j + 1))) + 1) ∧ 0 ≤ 4 ∧ Wp 26 0 [some (vR 19), some (vI i), some (vI j), some (vI (if (if μ 24 ((i + 1) * 9 + j) < μ 24 (i * 9 + (j + 1)) then μ 24 (i * 9 + (j + 1)) else μ 24 ((i + 1) * 9 + j) : Int) < (μ 24 ((i + 1) * 9 + (j + 1))) + 1 then (μ 24 ((i + 1) * 9 + (j + 1))) + 1 else (if μ 24 ((i + 1) * 9 + j) < μ 24 (i * 9 + (j + 1)) then μ 24 (i * 9 + (j + 1)) else μ 24 ((i + 1) * 9 + j) : Int) : Int))] [] μ (fun rr μ' => Wp 24 139 [some (vR 19), some (vR 8), some (vI p), some (vI r), some (vI (hS G p)), some (vI (hS G r)), some (vI i), some (vI j), some (vI (if (if μ 24 ((i + 1) * 9 + j) < μ 24 (i * 9 + (j + 1)) then μ 24 (i * 9 + (j + 1)) else μ 24 ((i + 1) * 9 + j) : Int) < (μ 24 ((i + 1) * 9 + (j + 1))) + 1 then (μ 24 ((i + 1) * 9 + (j + 1))) + 1 else (if μ 24 ((i + 1) * 9 + j) < μ 24 (i * 9 + (j + 1)) then μ 24 (i * 9 + (j + 1)) else μ 24 ((i + 1) * 9 + j) : Int) : Int)), some (vI 1)] (rr.toList ++ []) μ' R) from ⟨by have := tab_rg (a := i + 1) (b := j + 1) hT (by omega) (by omega) (by omega) (by omega); omega, by decide, ?_⟩)
            refine s26v_19 (by omega) ?_
            refine seg 2 (show iR (j + (-1)) ∧ Wp 24 27 [some (vR 19), some (vR 8), some (vI p), some (vI r), some (vI (hS G p)), some (vI (hS G r)), some (vI i), some (vI (j + (-1))), some (vI (if (if μ 24 ((i + 1) * 9 + j) < μ 24 (i * 9 + (j + 1)) then μ 24 (i * 9 + (j + 1)) else μ 24 ((i + 1) * 9 + j) : Int) < (μ 24 ((i + 1) * 9 + (j + 1))) + 1 then (μ 24 ((i + 1) * 9 + (j + 1))) + 1 else (if μ 24 ((i + 1) * 9 + j) < μ 24 (i * 9 + (j + 1)) then μ 24 (i * 9 + (j + 1)) else μ 24 ((i + 1) * 9 + j) : Int) : Int)), some (vI 1)] [] (u2 μ 24 (i * 9 + j) (if (if μ 24 ((i + 1) * 9 + j) < μ 24 (i * 9 + (j + 1)) then μ 24 (i * 9 + (j + 1)) else μ 24 ((i + 1) * 9 + j) : Int) < (μ 24 ((i + 1) * 9 + (j + 1))) + 1 then (μ 24 ((i + 1) * 9 + (j + 1))) + 1 else (if μ 24 ((i + 1) * 9 + j) < μ 24 (i * 9 + (j + 1)) then μ 24 (i * 9 + (j + 1)) else μ 24 ((i + 1) * 9 + j) : Int) : Int)) R from ⟨by omega, ?_⟩)
            refine ih (j + -1) _ _ _ (by omega) (by omega) (fun q hq => by rw [u2_ne hq]; exact hF q hq) ?_
            rw [u2_at]
            exact hT.step (by omega) (by omega) (by first | exact tab_v1 hT (by omega) (by omega) (by assumption) | exact tab_v2 hT (by omega) (by omega) (by assumption) | (rw [cm_out (by omega)]))
theorem l24b_19 {G : Hi} {p r : Int} {R : Po} {μ0 : Mu} (hc0 : GC G μ0) (hp : 0 ≤ p ∧ p < hN G) (hr : 0 ≤ r ∧ r < hN G) (hk : ∀ (μ : Mu), (∀ q, q ≠ 24 → μ q = μ0 q) → Tab (μ 24) (hL G p) (hL G r) (hS G p) (hS G r) (-1) (hS G r) → R none μ) : ∀ (n : Nat) (i : Int) (μ : Mu) (o7 o8 o9 : Option PV), i + 1 = n → i ≤ hS G p → (∀ q, q ≠ 24 → μ q = μ0 q) → Tab (μ 24) (hL G p) (hL G r) (hS G p) (hS G r) i (hS G r) → Wp 24 18 [some (vR 19), some (vR 8), some (vI p), some (vI r), some (vI (hS G p)), some (vI (hS G r)), some (vI i), o7, o8, o9] [] μ R := by
  intro n
  induction n with
  | zero =>
    intro i μ o7 o8 o9 hn hi hF hT
    have hc := hc0.fr (hF 8 (by decide)) (hF 9 (by decide)) (hF 10 (by decide)) (hF 11 (by decide))
    have h2 := hc.1.n
    have hsp := hc.1.s hp
    have hsr := hc.1.s hr
    refine seg 2 (show (i < 0 → Wp 24 151 [some (vR 19), some (vR 8), some (vI p), some (vI r), some (vI (hS G p)), some (vI (hS G r)), some (vI i), o7, o8, o9] [] μ R) ∧ (¬ (i < 0) → Wp 24 23 [some (vR 19), some (vR 8), some (vI p), some (vI r), some (vI (hS G p)), some (vI (hS G r)), some (vI i), o7, o8, o9] [] μ R) from ⟨fun c1 => ?_, fun c1 => ?_⟩)
    ·
      refine seg 1 (show R none μ from ?_)
      first | (obtain rfl : i = -1 := (by omega); exact hk μ hF hT) | (exfalso; omega)
    ·
      refine seg 2 (show Wp 24 27 [some (vR 19), some (vR 8), some (vI p), some (vI r), some (vI (hS G p)), some (vI (hS G r)), some (vI i), some (vI (hS G r)), o8, o9] [] μ R from ?_)
      exfalso; omega
  | succ n ih =>
    intro i μ o7 o8 o9 hn hi hF hT
    have hc := hc0.fr (hF 8 (by decide)) (hF 9 (by decide)) (hF 10 (by decide)) (hF 11 (by decide))
    have h2 := hc.1.n
    have hsp := hc.1.s hp
    have hsr := hc.1.s hr
    refine seg 2 (show (i < 0 → Wp 24 151 [some (vR 19), some (vR 8), some (vI p), some (vI r), some (vI (hS G p)), some (vI (hS G r)), some (vI i), o7, o8, o9] [] μ R) ∧ (¬ (i < 0) → Wp 24 23 [some (vR 19), some (vR 8), some (vI p), some (vI r), some (vI (hS G p)), some (vI (hS G r)), some (vI i), o7, o8, o9] [] μ R) from ⟨fun c2 => ?_, fun c2 => ?_⟩)
    ·
      refine seg 1 (show R none μ from ?_)
      first | (obtain rfl : i = -1 := (by omega); exact hk μ hF hT) | (exfalso; omega)
    ·
      refine seg 2 (show Wp 24 27 [some (vR 19), some (vR 8), some (vI p), some (vI r), some (vI (hS G p)), some (vI (hS G r)), some (vI i), some (vI (hS G r)), o8, o9] [] μ R from ?_)
      refine l24a_19 hc0 hp hr (i := i) (by omega) (fun μ o8 o9 hF hT => ?_) (hS G r + 1).toNat (hS G r) μ o8 o9 (by omega) (Int.le_refl _) hF hT
      refine seg 2 (show iR (i + (-1)) ∧ Wp 24 18 [some (vR 19), some (vR 8), some (vI p), some (vI r), some (vI (hS G p)), some (vI (hS G r)), some (vI (i + (-1))), some (vI (-1)), o8, o9] [] μ R from ⟨by omega, ?_⟩)
      exact ih (i + -1) μ _ _ _ (by omega) (by omega) hF hT.row
theorem s24_19 {G : Hi} {p r : Int} {R : Po} {μ : Mu} (hc : GC G μ) (hp : 0 ≤ p ∧ p < hN G) (hr : 0 ≤ r ∧ r < hN G) (hk : ∀ (μ2 : Mu), (∀ q, q ≠ 24 → μ2 q = μ q) → Tab (μ2 24) (hL G p) (hL G r) (hS G p) (hS G r) (-1) (hS G r) → R none μ2) : Wp 24 0 [some (vR 19), some (vR 8), some (vI p), some (vI r), none, none, none, none, none, none] [] μ R := by
  have h2 := hc.1.n
  have hsp := hc.1.s hp
  have hsr := hc.1.s hr
  refine seg 3 (show Wp 46 0 [some (vR 8), some (vI p)] [] μ (fun rr μ' => Wp 24 5 [some (vR 19), some (vR 8), some (vI p), some (vI r), none, none, none, none, none, none] (rr.toList ++ []) μ' R) from ?_)
  refine g46 hc (by omega) ?_
  refine seg 4 (show Wp 46 0 [some (vR 8), some (vI r)] [] μ (fun rr μ' => Wp 24 12 [some (vR 19), some (vR 8), some (vI p), some (vI r), some (vI (hS G p)), none, none, none, none, none] (rr.toList ++ []) μ' R) from ?_)
  refine g46 hc (by omega) ?_
  refine seg 3 (show Wp 24 18 [some (vR 19), some (vR 8), some (vI p), some (vI r), some (vI (hS G p)), some (vI (hS G r)), some (vI (hS G p)), none, none, none] [] μ R from ?_)
  exact l24b_19 hc hp hr hk (hS G p + 1).toNat (hS G p) μ _ _ _ (by omega) (Int.le_refl _) (fun _ _ => rfl) (fun a b h1 _ h3 h4 => (by exfalso; omega))
end
section
/-! PAIRS in the class -/
theorem or_fact : ∀ x, x < 256 → ∀ i, i < 8 → (x ||| 1 * 2 ^ i) < 256 ∧ ∀ k, k < 8 → ((x ||| 1 * 2 ^ i) / 2 ^ k % 2 = 1 ↔ (x / 2 ^ k % 2 = 1 ∨ k = i)) := by decide +kernel
theorem tb_nat {x k : Nat} : tb (x : Int) (k : Int) ↔ x / 2 ^ k % 2 = 1 := by
  show ((x : Int) / 2 ^ ((k : Int)).toNat % 2 = 1) ↔ _
  rw [Int.toNat_natCast, show ((2 : Int) ^ k) = ((2 ^ k : Nat) : Int) by simp, ← Int.natCast_ediv]
  omega
def Bts (x : Int) (I : Int → Int) : Prop := (0 ≤ x ∧ x < 256) ∧ ∀ i, 0 ≤ i → i < 8 → (tb x i ↔ I i = 1)
theorem Bts.or {x : Int} {I : Int → Int} (h : Bts x I) {i : Int} (hi : 0 ≤ i ∧ i < 8) : Bts ((Int.toNat x ||| Int.toNat (1 * 2 ^ (i : Int).toNat) : Nat) : Int) (up1 I i 1) := by
  obtain ⟨⟨h0, h1⟩, h2⟩ := h
  obtain ⟨X, rfl⟩ := Int.eq_ofNat_of_zero_le h0
  obtain ⟨a, rfl⟩ := Int.eq_ofNat_of_zero_le hi.1
  have e : Int.toNat (1 * 2 ^ ((a : Nat) : Int).toNat) = 1 * 2 ^ a := by
    rw [Int.toNat_natCast, show ((1 : Int) * 2 ^ a) = ((1 * 2 ^ a : Nat) : Int) by simp]
    rfl
  rw [e, Int.toNat_natCast]
  have h3 := or_fact X (by omega) a (by omega)
  refine ⟨⟨by omega, by omega⟩, fun k hk0 hk => ?_⟩
  obtain ⟨b, rfl⟩ := Int.eq_ofNat_of_zero_le hk0
  rw [tb_nat, h3.2 b (by omega), ← tb_nat, h2 b hk0 hk]
  by_cases hb : (b : Int) = a
  · rw [hb, up1_s]
    constructor
    · intro _; rfl
    · intro _; exact Or.inr (by omega)
  · rw [up1_n hb]
    constructor
    · rintro (h | h)
      · exact h
      · exact absurd (by omega) hb
    · exact Or.inl
theorem Bts.zero : Bts 0 (fun _ => 0) := by
  refine ⟨by decide, fun i _ _ => ?_⟩
  constructor
  · intro h
    have : (0 : Int) / 2 ^ i.toNat = 0 := Int.zero_ediv _
    rw [tb, this] at h
    exact absurd h (by decide)
  · intro h; exact absurd (show (0 : Int) = 1 from h) (by decide)
def Prs (A B : Int → Int) (r : Int) (q : (Int → Int) × (Int → Int)) : Prop := (∀ k, 0 ≤ k → k < 8 → A (r * 8 + k) = q.1 k) ∧ Bts (B r) q.2
theorem Prs.pair {A B : Int → Int} {r i j : Int} {P I : Int → Int} (h : Prs A B r (P, I)) (hi : 0 ≤ i ∧ i < 8) : Prs (up1 A (r * 8 + j) i) (up1 B r ((Int.toNat (B r) ||| Int.toNat (1 * 2 ^ (i : Int).toNat) : Nat) : Int)) r (up1 P j i, up1 I i 1) := by
  refine ⟨fun k h0 h8 => ?_, ?_⟩
  · by_cases hk : k = j
    · subst hk; rw [up1_s]; show i = up1 P k i k; rw [up1_s]
    · rw [up1_n (by omega)]; show A (r * 8 + k) = up1 P j i k; rw [up1_n hk]; exact h.1 k h0 h8
  · rw [up1_s]
    exact h.2.or hi
theorem Tab.all {T f g : Int → Int} {R C : Int} (h : Tab T f g R C (-1) C) {a b : Int} (ha : 0 ≤ a ∧ a ≤ R) (hb : 0 ≤ b ∧ b ≤ C) : T (a * 9 + b) = cm f g R C a b := h a b ha.2 hb.1 hb.2 (by omega)
theorem g47w {G : Hi} {μ : Mu} {R : Po} {r w w' : Int} (hc : GC G μ) (hr : 0 ≤ r ∧ r < hN G) (hw : w = w') (hw' : w' = 0 ∨ w' = 1) (h : R (some (vI (hP G r w'))) μ) : Wp 47 0 [some (vR 8), some (vI r), some (vI w)] [] μ R := by
  subst hw
  exact g47 hc hr hw' h
theorem l23_13 {r : Int} {R : Po} {μ0 : Mu} (hr : 0 ≤ r ∧ r < 8) (hk : ∀ μ : Mu, (∀ q, q ≠ 15 → μ q = μ0 q) → (∀ x, μ 15 x = if r * 8 ≤ x ∧ x < r * 8 + 8 then -9 else μ0 15 x) → R none (u2 (u2 μ 16 r 0) 17 r (-9))) : ∀ (n : Nat) (k : Int) (μ : Mu), 8 - k = n → 0 ≤ k → (∀ q, q ≠ 15 → μ q = μ0 q) → (∀ x, μ 15 x = if r * 8 ≤ x ∧ x < r * 8 + k then -9 else μ0 15 x) → Wp 23 2 [some (vR 13), some (vI r), some (vI k)] [] μ R := by
  intro n
  induction n with
  | zero =>
    intro k μ hn h0 hF hA
    refine seg 3 (show (8 ≤ k → Wp 23 26 [some (vR 13), some (vI r), some (vI k)] [] μ R) ∧ (¬ (8 ≤ k) → Wp 23 8 [some (vR 13), some (vI r), some (vI k)] [] μ R) from ⟨fun c1 => ?_, fun c1 => ?_⟩)
    ·
      refine seg 11 (show (0 ≤ r ∧ r < 8) ∧ (0 ≤ r ∧ r < 8) ∧ R none (u2 (u2 μ 16 r 0) 17 r (-9)) from ⟨by omega, by omega, ?_⟩)
      first | (obtain rfl : k = 8 := (by omega); exact hk μ hF hA) | (exfalso; omega)
    ·
      refine seg 5 (show Wp 114 0 [some (vI r), some (vI k)] [] μ (fun rr μ' => Wp 23 17 [some (vR 13), some (vI r), some (vI k)] (rr.toList ++ [vR 15]) μ' R) from ?_)
      refine s114 (by omega) ?_
      refine seg 4 (show (0 ≤ (r * 8 + k) ∧ (r * 8 + k) < 64) ∧ iR (k + 1) ∧ Wp 23 2 [some (vR 13), some (vI r), some (vI (k + 1))] [] (u2 μ 15 (r * 8 + k) (-9)) R from ⟨by omega, by omega, ?_⟩)
      exfalso; omega
  | succ n ih =>
    intro k μ hn h0 hF hA
    refine seg 3 (show (8 ≤ k → Wp 23 26 [some (vR 13), some (vI r), some (vI k)] [] μ R) ∧ (¬ (8 ≤ k) → Wp 23 8 [some (vR 13), some (vI r), some (vI k)] [] μ R) from ⟨fun c2 => ?_, fun c2 => ?_⟩)
    ·
      refine seg 11 (show (0 ≤ r ∧ r < 8) ∧ (0 ≤ r ∧ r < 8) ∧ R none (u2 (u2 μ 16 r 0) 17 r (-9)) from ⟨by omega, by omega, ?_⟩)
      first | (obtain rfl : k = 8 := (by omega); exact hk μ hF hA) | (exfalso; omega)
    ·
      refine seg 5 (show Wp 114 0 [some (vI r), some (vI k)] [] μ (fun rr μ' => Wp 23 17 [some (vR 13), some (vI r), some (vI k)] (rr.toList ++ [vR 15]) μ' R) from ?_)
      refine s114 (by omega) ?_
      refine seg 4 (show (0 ≤ (r * 8 + k) ∧ (r * 8 + k) < 64) ∧ iR (k + 1) ∧ Wp 23 2 [some (vR 13), some (vI r), some (vI (k + 1))] [] (u2 μ 15 (r * 8 + k) (-9)) R from ⟨by omega, by omega, ?_⟩)
      refine ih (k + 1) _ (by omega) (by omega) (fun q hq => by rw [u2_ne hq]; exact hF q hq) (fun x => ?_)
      rw [u2_at]
      by_cases hx : x = r * 8 + k
      · subst hx; rw [up1_s, if_pos (by omega)]
      · rw [up1_n hx, hA x]
        by_cases hq : r * 8 ≤ x ∧ x < r * 8 + k
        · rw [if_pos hq, if_pos (by omega)]
        · rw [if_neg hq, if_neg (by omega)]
theorem s23_13 {r : Int} {R : Po} {μ : Mu} (hr : 0 ≤ r ∧ r < 8) (hk : ∀ μ2 : Mu, (∀ q, q ≠ 15 → q ≠ 16 → q ≠ 17 → μ2 q = μ q) → (∀ k, 0 ≤ k → k < 8 → μ2 15 (r * 8 + k) = -9) → (∀ x, ¬ (r * 8 ≤ x ∧ x < r * 8 + 8) → μ2 15 x = μ 15 x) → μ2 16 = up1 (μ 16) r 0 → μ2 17 = up1 (μ 17) r (-9) → R none μ2) : Wp 23 0 [some (vR 13), some (vI r), none] [] μ R := by
  refine seg 2 (show Wp 23 2 [some (vR 13), some (vI r), some (vI 0)] [] μ R from ?_)
  refine l23_13 hr (fun μ1 hF hA => hk _ (fun q h1 h2 h3 => by rw [u2_ne h3, u2_ne h2]; exact hF q h1) (fun k h0 h8 => ?_) (fun x hx => ?_) ?_ ?_) 8 0 μ (by decide) (by decide) (fun _ _ => rfl) (fun x => by rw [if_neg (by omega)])
  · rw [u2_ne (by decide), u2_ne (by decide), hA, if_pos (by omega)]
  · rw [u2_ne (by decide), u2_ne (by decide), hA, if_neg hx]
  · rw [u2_ne (by decide), u2_at, hF 16 (by decide)]
  · rw [u2_at, u2_ne (by decide), hF 17 (by decide)]
theorem l27_13 {G : Hi} {p r : Int} {R : Po} {μ0 : Mu} (hc0 : GC G μ0) (hp : 0 ≤ p ∧ p < hN G) (hr : 0 ≤ r ∧ r < hN G) (hT0 : Tab (μ0 18) (hL G p) (hL G r) (hS G p) (hS G r) (-1) (hS G r)) : ∀ (n : Nat) (i j : Int) (P I : Int → Int) (μ : Mu) (o6 : Option PV), (hS G p - i).toNat + (hS G r - j).toNat < n → 0 ≤ i → 0 ≤ j → i ≤ hS G p → j ≤ hS G r → ((∀ q, q ≠ 15 → q ≠ 16 → μ q = μ0 q) ∧ (∀ x, ¬ (r * 8 ≤ x ∧ x < r * 8 + 8) → μ 15 x = μ0 15 x) ∧ (∀ y, y ≠ r → μ 16 y = μ0 16 y)) → Prs (μ 15) (μ 16) r (P, I) → (∀ μ2 : Mu, ((∀ q, q ≠ 15 → q ≠ 16 → μ2 q = μ0 q) ∧ (∀ x, ¬ (r * 8 ≤ x ∧ x < r * 8 + 8) → μ2 15 x = μ0 15 x) ∧ (∀ y, y ≠ r → μ2 16 y = μ0 16 y)) → Prs (μ2 15) (μ2 16) r (wk (hL G p) (hL G r) (hS G p) (hS G r) n i j P I) → R none μ2) → Wp 27 6 [some (vR 13), some (vR 8), some (vI p), some (vI r), some (vI i), some (vI j), o6] [] μ R := by
  intro n
  induction n with
  | zero =>
    intro i j P I μ o6 hn
    exact absurd hn (by omega)
  | succ n ih =>
    intro i j P I μ o6 hn hi hj hi2 hj2 hF hP hk
    have hc := hc0.fr (hF.1 8 (by decide) (by decide)) (hF.1 9 (by decide) (by decide)) (hF.1 10 (by decide) (by decide)) (hF.1 11 (by decide) (by decide))
    have h2 := hc.1.n
    have hsp := hc.1.s hp
    have hsr := hc.1.s hr
    have hT : Tab (μ 18) (hL G p) (hL G r) (hS G p) (hS G r) (-1) (hS G r) := by rw [hF.1 18 (by decide) (by decide)]; exact hT0
    rw [wk] at hk
    refine seg 4 (show Wp 46 0 [some (vR 8), some (vI p)] [] μ (fun rr μ' => Wp 27 13 [some (vR 13), some (vR 8), some (vI p), some (vI r), some (vI i), some (vI j), o6] (rr.toList ++ [vI i]) μ' R) from ?_)
    refine g46 hc (by omega) ?_
    refine seg 1 (show (hS G p ≤ i → Wp 27 133 [some (vR 13), some (vR 8), some (vI p), some (vI r), some (vI i), some (vI j), o6] [] μ R) ∧ (¬ (hS G p ≤ i) → Wp 27 16 [some (vR 13), some (vR 8), some (vI p), some (vI r), some (vI i), some (vI j), o6] [] μ R) from ⟨fun c1 => ?_, fun c1 => ?_⟩)
    ·
      refine seg 1 (show R none μ from ?_)
      rw [if_neg (by omega)] at hk
      exact hk μ hF hP
    ·
      refine seg 4 (show Wp 46 0 [some (vR 8), some (vI r)] [] μ (fun rr μ' => Wp 27 23 [some (vR 13), some (vR 8), some (vI p), some (vI r), some (vI i), some (vI j), o6] (rr.toList ++ [vI j]) μ' R) from ?_)
      refine g46 hc (by omega) ?_
      refine seg 1 (show (hS G r ≤ j → Wp 27 133 [some (vR 13), some (vR 8), some (vI p), some (vI r), some (vI i), some (vI j), o6] [] μ R) ∧ (¬ (hS G r ≤ j) → Wp 27 26 [some (vR 13), some (vR 8), some (vI p), some (vI r), some (vI i), some (vI j), o6] [] μ R) from ⟨fun c2 => ?_, fun c2 => ?_⟩)
      ·
        refine seg 1 (show R none μ from ?_)
        rw [if_neg (by omega)] at hk
        exact hk μ hF hP
      ·
        refine seg 4 (show Wp 48 0 [some (vR 8), some (vI p), some (vI i)] [] μ (fun rr μ' => Wp 27 33 [some (vR 13), some (vR 8), some (vI p), some (vI r), some (vI i), some (vI j), o6] (rr.toList ++ []) μ' R) from ?_)
        refine g48 hc (by omega) (by omega) ?_
        refine seg 4 (show Wp 48 0 [some (vR 8), some (vI r), some (vI j)] [] μ (fun rr μ' => Wp 27 40 [some (vR 13), some (vR 8), some (vI p), some (vI r), some (vI i), some (vI j), o6] (rr.toList ++ [vI (hL G p i)]) μ' R) from ?_)
        refine g48 hc (by omega) (by omega) ?_
        refine seg 1 (show (¬ (hL G p i = hL G r j) → Wp 27 47 [some (vR 13), some (vR 8), some (vI p), some (vI r), some (vI i), some (vI j), o6] [] μ R) ∧ (hL G p i = hL G r j → Wp 27 43 [some (vR 13), some (vR 8), some (vI p), some (vI r), some (vI i), some (vI j), o6] [] μ R) from ⟨fun c3 => ?_, fun c3 => ?_⟩)
        ·
          refine seg 4 (show (0 = 0 → Wp 27 98 [some (vR 13), some (vR 8), some (vI p), some (vI r), some (vI i), some (vI j), some (vI 0)] [] μ R) ∧ (¬ (0 = 0) → Wp 27 55 [some (vR 13), some (vR 8), some (vI p), some (vI r), some (vI i), some (vI j), some (vI 0)] [] μ R) from ⟨fun _ => ?_, fun z => absurd z (by decide)⟩)
          refine seg 6 (show iR (i + 1) ∧ Wp 25 0 [some (vR 13), some (vI (i + 1)), some (vI j)] [] μ (fun rr μ' => Wp 27 108 [some (vR 13), some (vR 8), some (vI p), some (vI r), some (vI i), some (vI j), some (vI 0)] (rr.toList ++ []) μ' R) from ⟨by omega, ?_⟩)
          refine s25v_13 (by omega) ?_
          refine seg 6 (show iR (j + 1) ∧ Wp 25 0 [some (vR 13), some (vI i), some (vI (j + 1))] [] μ (fun rr μ' => Wp 27 118 [some (vR 13), some (vR 8), some (vI p), some (vI r), some (vI i), some (vI j), some (vI 0)] (rr.toList ++ [vI (μ 18 ((i + 1) * 9 + j))]) μ' R) from ⟨by omega, ?_⟩)
          refine s25v_13 (by omega) ?_
          refine seg 1 (show (μ 18 ((i + 1) * 9 + j) < μ 18 (i * 9 + (j + 1)) → Wp 27 127 [some (vR 13), some (vR 8), some (vI p), some (vI r), some (vI i), some (vI j), some (vI 0)] [] μ R) ∧ (¬ (μ 18 ((i + 1) * 9 + j) < μ 18 (i * 9 + (j + 1))) → Wp 27 121 [some (vR 13), some (vR 8), some (vI p), some (vI r), some (vI i), some (vI j), some (vI 0)] [] μ R) from ⟨fun c4 => ?_, fun c4 => ?_⟩)
          ·
            refine seg 2 (show iR (j + 1) ∧ Wp 27 6 [some (vR 13), some (vR 8), some (vI p), some (vI r), some (vI i), some (vI (j + 1)), some (vI 0)] [] μ R from ⟨by omega, ?_⟩)
            rw [if_pos (by omega)] at hk
            rw [if_neg (fun z => by first | exact absurd z.1 (by assumption) | (have z2 := z.2; rw [← hT.all (by omega) (by omega), ← hT.all (by omega) (by omega)] at z2; exact absurd z2 (by assumption)))] at hk
            rw [if_neg (by rw [← hT.all (by omega) (by omega), ← hT.all (by omega) (by omega)]; omega)] at hk
            exact ih _ _ _ _ _ _ (by omega) (by omega) (by omega) (by omega) (by omega) hF hP hk
          ·
            refine seg 3 (show iR (i + 1) ∧ Wp 27 6 [some (vR 13), some (vR 8), some (vI p), some (vI r), some (vI (i + 1)), some (vI j), some (vI 0)] [] μ R from ⟨by omega, ?_⟩)
            rw [if_pos (by omega)] at hk
            rw [if_neg (fun z => by first | exact absurd z.1 (by assumption) | (have z2 := z.2; rw [← hT.all (by omega) (by omega), ← hT.all (by omega) (by omega)] at z2; exact absurd z2 (by assumption)))] at hk
            rw [if_pos (by rw [← hT.all (by omega) (by omega), ← hT.all (by omega) (by omega)]; omega)] at hk
            exact ih _ _ _ _ _ _ (by omega) (by omega) (by omega) (by omega) (by omega) hF hP hk
        ·
          refine seg 5 (show (1 = 0 → Wp 27 98 [some (vR 13), some (vR 8), some (vI p), some (vI r), some (vI i), some (vI j), some (vI 1)] [] μ R) ∧ (¬ (1 = 0) → Wp 27 55 [some (vR 13), some (vR 8), some (vI p), some (vI r), some (vI i), some (vI j), some (vI 1)] [] μ R) from ⟨fun z => absurd z (by decide), fun _ => ?_⟩)
          refine seg 4 (show Wp 25 0 [some (vR 13), some (vI i), some (vI j)] [] μ (fun rr μ' => Wp 27 63 [some (vR 13), some (vR 8), some (vI p), some (vI r), some (vI i), some (vI j), some (vI 1)] (rr.toList ++ []) μ' R) from ?_)
          refine s25v_13 (by omega) ?_
          refine seg 8 (show iR (i + 1) ∧ iR (j + 1) ∧ Wp 25 0 [some (vR 13), some (vI (i + 1)), some (vI (j + 1))] [] μ (fun rr μ' => Wp 27 75 [some (vR 13), some (vR 8), some (vI p), some (vI r), some (vI i), some (vI j), some (vI 1)] (rr.toList ++ [vI (μ 18 (i * 9 + j))]) μ' R) from ⟨by omega, by omega, ?_⟩)
          refine s25v_13 (by omega) ?_
          refine seg 3 (show iR ((μ 18 ((i + 1) * 9 + (j + 1))) + 1) ∧ (¬ (μ 18 (i * 9 + j) = (μ 18 ((i + 1) * 9 + (j + 1))) + 1) → Wp 27 98 [some (vR 13), some (vR 8), some (vI p), some (vI r), some (vI i), some (vI j), some (vI 1)] [] μ R) ∧ (μ 18 (i * 9 + j) = (μ 18 ((i + 1) * 9 + (j + 1))) + 1 → Wp 27 80 [some (vR 13), some (vR 8), some (vI p), some (vI r), some (vI i), some (vI j), some (vI 1)] [] μ R) from ⟨by have := tab_rg (a := i + 1) (b := j + 1) hT (by omega) (by omega) (by omega) (by omega); omega, fun c5 => ?_, fun c5 => ?_⟩)
          ·
            refine seg 6 (show iR (i + 1) ∧ Wp 25 0 [some (vR 13), some (vI (i + 1)), some (vI j)] [] μ (fun rr μ' => Wp 27 108 [some (vR 13), some (vR 8), some (vI p), some (vI r), some (vI i), some (vI j), some (vI 1)] (rr.toList ++ []) μ' R) from ⟨by omega, ?_⟩)
            refine s25v_13 (by omega) ?_
            refine seg 6 (show iR (j + 1) ∧ Wp 25 0 [some (vR 13), some (vI i), some (vI (j + 1))] [] μ (fun rr μ' => Wp 27 118 [some (vR 13), some (vR 8), some (vI p), some (vI r), some (vI i), some (vI j), some (vI 1)] (rr.toList ++ [vI (μ 18 ((i + 1) * 9 + j))]) μ' R) from ⟨by omega, ?_⟩)
            refine s25v_13 (by omega) ?_
            refine seg 1 (show (μ 18 ((i + 1) * 9 + j) < μ 18 (i * 9 + (j + 1)) → Wp 27 127 [some (vR 13), some (vR 8), some (vI p), some (vI r), some (vI i), some (vI j), some (vI 1)] [] μ R) ∧ (¬ (μ 18 ((i + 1) * 9 + j) < μ 18 (i * 9 + (j + 1))) → Wp 27 121 [some (vR 13), some (vR 8), some (vI p), some (vI r), some (vI i), some (vI j), some (vI 1)] [] μ R) from ⟨fun c6 => ?_, fun c6 => ?_⟩)
            ·
              refine seg 2 (show iR (j + 1) ∧ Wp 27 6 [some (vR 13), some (vR 8), some (vI p), some (vI r), some (vI i), some (vI (j + 1)), some (vI 1)] [] μ R from ⟨by omega, ?_⟩)
              rw [if_pos (by omega)] at hk
              rw [if_neg (fun z => by first | exact absurd z.1 (by assumption) | (have z2 := z.2; rw [← hT.all (by omega) (by omega), ← hT.all (by omega) (by omega)] at z2; exact absurd z2 (by assumption)))] at hk
              rw [if_neg (by rw [← hT.all (by omega) (by omega), ← hT.all (by omega) (by omega)]; omega)] at hk
              exact ih _ _ _ _ _ _ (by omega) (by omega) (by omega) (by omega) (by omega) hF hP hk
            ·
              refine seg 3 (show iR (i + 1) ∧ Wp 27 6 [some (vR 13), some (vR 8), some (vI p), some (vI r), some (vI (i + 1)), some (vI j), some (vI 1)] [] μ R from ⟨by omega, ?_⟩)
              rw [if_pos (by omega)] at hk
              rw [if_neg (fun z => by first | exact absurd z.1 (by assumption) | (have z2 := z.2; rw [← hT.all (by omega) (by omega), ← hT.all (by omega) (by omega)] at z2; exact absurd z2 (by assumption)))] at hk
              rw [if_pos (by rw [← hT.all (by omega) (by omega), ← hT.all (by omega) (by omega)]; omega)] at hk
              exact ih _ _ _ _ _ _ (by omega) (by omega) (by omega) (by omega) (by omega) hF hP hk
          ·
            refine seg 5 (show Wp 28 0 [some (vR 13), some (vI r), some (vI i), some (vI j)] [] μ (fun rr μ' => Wp 27 89 [some (vR 13), some (vR 8), some (vI p), some (vI r), some (vI i), some (vI j), some (vI 1)] (rr.toList ++ []) μ' R) from ?_)
            refine s28v_13 (by omega) (hP.2.1.1) ?_
            refine seg 4 (show iR (i + 1) ∧ iR (j + 1) ∧ Wp 27 6 [some (vR 13), some (vR 8), some (vI p), some (vI r), some (vI (i + 1)), some (vI (j + 1)), some (vI 1)] [] (u2 (u2 μ 15 (r * 8 + j) i) 16 r ((Int.toNat (μ 16 r) ||| Int.toNat (1 * 2 ^ (i : Int).toNat) : Nat) : Int)) R from ⟨by omega, by omega, ?_⟩)
            rw [if_pos (by omega)] at hk
            rw [if_pos ⟨by assumption, by rw [← hT.all (by omega) (by omega), ← hT.all (by omega) (by omega)]; assumption⟩] at hk
            refine ih _ _ _ _ _ _ (by omega) (by omega) (by omega) (by omega) (by omega) ⟨fun q h1 h2 => by rw [u2_ne h2, u2_ne h1]; exact hF.1 q h1 h2, fun x hx => by rw [u2_ne (by decide), u2_at, up1_n (by omega)]; exact hF.2.1 x hx, fun y hy => by rw [u2_at, u2_ne (by decide), up1_n hy]; exact hF.2.2 y hy⟩ ?_ hk
            rw [u2_ne (by decide), u2_at, u2_at, u2_ne (by decide)]
            exact hP.pair (by omega)
theorem s27_13 {G : Hi} {p r : Int} {R : Po} {μ : Mu} (hc : GC G μ) (hp : 0 ≤ p ∧ p < hN G) (hr : 0 ≤ r ∧ r < hN G) (hT : Tab (μ 18) (hL G p) (hL G r) (hS G p) (hS G r) (-1) (hS G r)) (hP : Prs (μ 15) (μ 16) r (fun _ => -9, fun _ => 0)) (hk : ∀ μ2 : Mu, ((∀ q, q ≠ 15 → q ≠ 16 → μ2 q = μ q) ∧ (∀ x, ¬ (r * 8 ≤ x ∧ x < r * 8 + 8) → μ2 15 x = μ 15 x) ∧ (∀ y, y ≠ r → μ2 16 y = μ 16 y)) → Prs (μ2 15) (μ2 16) r (wk (hL G p) (hL G r) (hS G p) (hS G r) 17 0 0 (fun _ => -9) (fun _ => 0)) → R none μ2) : Wp 27 0 [some (vR 13), some (vR 8), some (vI p), some (vI r), none, none, none] [] μ R := by
  have hsp := hc.1.s hp
  have hsr := hc.1.s hr
  refine seg 4 (show Wp 27 6 [some (vR 13), some (vR 8), some (vI p), some (vI r), some (vI 0), some (vI 0), none] [] μ R from ?_)
  exact l27_13 hc hp hr hT 17 0 0 _ _ μ none (by omega) (by decide) (by decide) (by omega) (by omega) ⟨fun _ _ _ => rfl, fun _ _ => rfl, fun _ _ => rfl⟩ hP hk
/-- a revision's rows in a Pairing -/
def PrC13 (G : Hi) (μ : Mu) (r : Int) : Prop := μ 14 r = hP G r 0 ∧ Prs (μ 15) (μ 16) r (prI G r 0) ∧ μ 17 r = cmA G r 0
theorem l22_13 {G : Hi} {R : Po} {μ0 : Mu} (hc0 : GC G μ0) (hw0 : μ0 13 0 = 0) (hk : ∀ μ : Mu, (∀ q, q ≠ 14 → q ≠ 15 → q ≠ 16 → q ≠ 17 → q ≠ 18 → μ q = μ0 q) → (∀ x, 0 ≤ x → x < hN G → PrC13 G μ x) → (∀ x k, hN G ≤ x → 0 ≤ x → x < 8 → 0 ≤ k → k < 8 → μ 15 (x * 8 + k) = -9) → R none μ) : ∀ (n : Nat) (r : Int) (μ : Mu) (o3 : Option PV), 8 - r = n → 0 ≤ r → (∀ q, q ≠ 14 → q ≠ 15 → q ≠ 16 → q ≠ 17 → q ≠ 18 → μ q = μ0 q) → (∀ x, 0 ≤ x → x < r → x < hN G → PrC13 G μ x) → (∀ x k, hN G ≤ x → 0 ≤ x → x < r → 0 ≤ k → k < 8 → μ 15 (x * 8 + k) = -9) → Wp 22 2 [some (vR 13), some (vR 8), some (vI r), o3] [] μ R := by
  intro n
  induction n with
  | zero =>
    intro r μ o3 hn h0 hF hI hJ
    have hc := hc0.fr (hF 8 (by decide) (by decide) (by decide) (by decide) (by decide)) (hF 9 (by decide) (by decide) (by decide) (by decide) (by decide)) (hF 10 (by decide) (by decide) (by decide) (by decide) (by decide)) (hF 11 (by decide) (by decide) (by decide) (by decide) (by decide))
    refine seg 3 (show (8 ≤ r → Wp 22 68 [some (vR 13), some (vR 8), some (vI r), o3] [] μ R) ∧ (¬ (8 ≤ r) → Wp 22 8 [some (vR 13), some (vR 8), some (vI r), o3] [] μ R) from ⟨fun c1 => ?_, fun c1 => ?_⟩)
    ·
      refine seg 1 (show R none μ from ?_)
      first | exact hk μ hF (fun x h1 h2 => hI x h1 (by have := hc.1.n; omega) h2) (fun x k h1 h2 h3 h4 h5 => hJ x k h1 h2 (by omega) h4 h5) | (exfalso; omega)
    ·
      refine seg 3 (show Wp 23 0 [some (vR 13), some (vI r), none] [] μ (fun rr μ' => Wp 22 13 [some (vR 13), some (vR 8), some (vI r), o3] (rr.toList ++ []) μ' R) from ?_)
      exfalso; omega
  | succ n ih =>
    intro r μ o3 hn h0 hF hI hJ
    have hc := hc0.fr (hF 8 (by decide) (by decide) (by decide) (by decide) (by decide)) (hF 9 (by decide) (by decide) (by decide) (by decide) (by decide)) (hF 10 (by decide) (by decide) (by decide) (by decide) (by decide)) (hF 11 (by decide) (by decide) (by decide) (by decide) (by decide))
    refine seg 3 (show (8 ≤ r → Wp 22 68 [some (vR 13), some (vR 8), some (vI r), o3] [] μ R) ∧ (¬ (8 ≤ r) → Wp 22 8 [some (vR 13), some (vR 8), some (vI r), o3] [] μ R) from ⟨fun c2 => ?_, fun c2 => ?_⟩)
    ·
      refine seg 1 (show R none μ from ?_)
      first | exact hk μ hF (fun x h1 h2 => hI x h1 (by have := hc.1.n; omega) h2) (fun x k h1 h2 h3 h4 h5 => hJ x k h1 h2 (by omega) h4 h5) | (exfalso; omega)
    ·
      refine seg 3 (show Wp 23 0 [some (vR 13), some (vI r), none] [] μ (fun rr μ' => Wp 22 13 [some (vR 13), some (vR 8), some (vI r), o3] (rr.toList ++ []) μ' R) from ?_)
      refine s23_13 (by omega) (fun μ1 f1 f2 f3 f4 f5 => ?_)
      have hc1 := hc.fr (f1 8 (by decide) (by decide) (by decide)) (f1 9 (by decide) (by decide) (by decide)) (f1 10 (by decide) (by decide) (by decide)) (f1 11 (by decide) (by decide) (by decide))
      have hw1 : μ1 13 0 = 0 := by rw [f1 13 (by decide) (by decide) (by decide), hF 13 (by decide) (by decide) (by decide) (by decide) (by decide)]; exact hw0
      refine seg 5 (show Wp 47 0 [some (vR 8), some (vI r), some (vI (μ1 13 0))] [] μ1 (fun rr μ' => Wp 22 22 [some (vR 13), some (vR 8), some (vI r), o3] (rr.toList ++ []) μ' R) from ?_)
      by_cases hrn : r < hN G
      ·
        refine g47w hc1 (by omega) hw1 (by decide) ?_
        refine seg 9 (show (0 ≤ r ∧ r < 8) ∧ (hP G r 0 = -9 → Wp 22 62 [some (vR 13), some (vR 8), some (vI r), some (vI (hP G r 0))] [] (u2 μ1 14 r (hP G r 0)) R) ∧ (¬ (hP G r 0 = -9) → Wp 22 36 [some (vR 13), some (vR 8), some (vI r), some (vI (hP G r 0))] [] (u2 μ1 14 r (hP G r 0)) R) from ⟨by omega, fun c3 => ?_, fun c3 => ?_⟩)
        ·
          refine seg 2 (show iR (r + 1) ∧ Wp 22 2 [some (vR 13), some (vR 8), some (vI (r + 1)), some (vI (hP G r 0))] [] (u2 μ1 14 r (hP G r 0)) R from ⟨by omega, ?_⟩)
          obtain ⟨μ5, hμ5⟩ : ∃ z, z = u2 μ1 14 r (hP G r 0) := ⟨_, rfl⟩
          rw [← hμ5]
          have e5 : ∀ q, q ≠ 14 → μ5 q = μ1 q := fun q hq => by rw [hμ5]; exact u2_ne hq
          refine ih (r + 1) μ5 _ (by omega) (by omega) (fun q h1 h2 h3 h4 h5 => by rw [e5 q h1, f1 q h2 h3 h4]; exact hF q h1 h2 h3 h4 h5) (fun x hx0 hx1 hx2 => ?_) (fun x k h1 h2 h3 h4 h5 => by
            rw [e5 _ (by decide)]
            by_cases hxr : x = r
            · subst hxr; exact f2 k h4 h5
            · rw [f3 _ (by omega)]; exact hJ x k h1 h2 (by omega) h4 h5)
          by_cases hxr : x = r
          · subst hxr
            first
            | (exfalso; omega)
            | (refine ⟨by rw [hμ5, u2_at, up1_s], ?_, ?_⟩
               · unfold prI
                 rw [if_pos (by omega)]
                 exact ⟨fun k h0 h8 => by rw [e5 _ (by decide)]; exact f2 k h0 h8, by rw [e5 _ (by decide), f4, up1_s]; exact Bts.zero⟩
               · rw [e5 _ (by decide), f5, up1_s]
                 unfold cmA
                 rw [if_pos (by omega)])
          · have hI2 := hI x hx0 (by omega) hx2
            refine ⟨by rw [hμ5, u2_at, up1_n hxr, f1 _ (by decide) (by decide) (by decide)]; exact hI2.1, ⟨fun k h0 h8 => ?_, ?_⟩, ?_⟩
            · rw [e5 _ (by decide), f3 _ (by omega)]
              exact hI2.2.1.1 k h0 h8
            · rw [e5 _ (by decide), f4, up1_n hxr]
              exact hI2.2.1.2
            · rw [e5 _ (by decide), f5, up1_n hxr]
              exact hI2.2.2
        ·
          refine seg 5 (show Wp 24 0 [some (vR 13), some (vR 8), some (vI (hP G r 0)), some (vI r), none, none, none, none, none, none] [] (u2 μ1 14 r (hP G r 0)) (fun rr μ' => Wp 22 43 [some (vR 13), some (vR 8), some (vI r), some (vI (hP G r 0))] (rr.toList ++ []) μ' R) from ?_)
          obtain ⟨μ2, hμ2⟩ : ∃ z, z = u2 μ1 14 r (hP G r 0) := ⟨_, rfl⟩
          rw [← hμ2]
          have e2 : ∀ q, q ≠ 14 → μ2 q = μ1 q := fun q hq => by rw [hμ2]; exact u2_ne hq
          have hc2 := hc1.fr (e2 8 (by decide)) (e2 9 (by decide)) (e2 10 (by decide)) (e2 11 (by decide))
          have hpv := hc1.1.pv (r := r) (w := 0) (by omega) (by decide) (by assumption)
          refine s24_13 hc2 (by omega) (by omega) (fun μ3 f6 hT => ?_)
          have hc3 := hc2.fr (f6 8 (by decide)) (f6 9 (by decide)) (f6 10 (by decide)) (f6 11 (by decide))
          refine seg 13 (show (0 ≤ 0 ∧ 0 < 81) ∧ (0 ≤ r ∧ r < 8) ∧ Wp 27 0 [some (vR 13), some (vR 8), some (vI (hP G r 0)), some (vI r), none, none, none] [] (u2 μ3 17 r (μ3 18 0)) (fun rr μ' => Wp 22 62 [some (vR 13), some (vR 8), some (vI r), some (vI (hP G r 0))] (rr.toList ++ []) μ' R) from ⟨by omega, by omega, ?_⟩)
          obtain ⟨μ4, hμ4⟩ : ∃ z, z = u2 μ3 17 r (μ3 18 0) := ⟨_, rfl⟩
          rw [← hμ4]
          have e4 : ∀ q, q ≠ 17 → μ4 q = μ3 q := fun q hq => by rw [hμ4]; exact u2_ne hq
          have hc4 := hc3.fr (e4 8 (by decide)) (e4 9 (by decide)) (e4 10 (by decide)) (e4 11 (by decide))
          have eA : μ4 15 = μ1 15 := by rw [e4 _ (by decide), f6 _ (by decide), e2 _ (by decide)]
          have eB : μ4 16 = μ1 16 := by rw [e4 _ (by decide), f6 _ (by decide), e2 _ (by decide)]
          refine s27_13 hc4 (by omega) (by omega) (by rw [e4 18 (by decide)]; exact hT) (by rw [eA, eB]; exact ⟨f2, by rw [f4, up1_s]; exact Bts.zero⟩) (fun μ5 f7 hP5 => ?_)
          refine seg 2 (show iR (r + 1) ∧ Wp 22 2 [some (vR 13), some (vR 8), some (vI (r + 1)), some (vI (hP G r 0))] [] μ5 R from ⟨by omega, ?_⟩)
          have eP : μ5 14 = up1 (μ1 14) r (hP G r 0) := by rw [f7.1 _ (by decide) (by decide), e4 _ (by decide), f6 _ (by decide), hμ2, u2_at]
          have eC : μ5 17 = up1 (μ1 17) r (μ3 18 0) := by rw [f7.1 _ (by decide) (by decide), hμ4, u2_at, f6 _ (by decide), e2 _ (by decide)]
          refine ih (r + 1) μ5 _ (by omega) (by omega) (fun q h1 h2 h3 h4 h5 => by rw [f7.1 q h2 h3, e4 q h4, f6 q h5, e2 q h1, f1 q h2 h3 h4]; exact hF q h1 h2 h3 h4 h5) (fun x hx0 hx1 hx2 => ?_) (fun x k h1 h2 h3 h4 h5 => by rw [f7.2.1 _ (by omega), eA, f3 _ (by omega)]; exact hJ x k h1 h2 (by omega) h4 h5)
          by_cases hxr : x = r
          · subst hxr
            refine ⟨by rw [eP, up1_s], ?_, ?_⟩
            · unfold prI
              rw [if_neg (by omega)]
              exact hP5
            · rw [eC, up1_s]
              unfold cmA
              rw [if_neg (by omega)]
              have := hT.all (a := 0) (b := 0) (by have := hc.1.s (r := hP G x 0) (by omega); omega) (by have := hc.1.s (r := x) (by omega); omega)
              exact this
          · have hI2 := hI x hx0 (by omega) hx2
            refine ⟨by rw [eP, up1_n hxr, f1 _ (by decide) (by decide) (by decide)]; exact hI2.1, ⟨fun k h0 h8 => ?_, ?_⟩, ?_⟩
            · rw [f7.2.1 _ (by omega), eA, f3 _ (by omega)]
              exact hI2.2.1.1 k h0 h8
            · rw [f7.2.2 x hxr, eB, f4, up1_n hxr]
              exact hI2.2.1.2
            · rw [eC, up1_n hxr, f5, up1_n hxr]
              exact hI2.2.2
      ·
        refine g47n hc1 (by omega) ?_
        refine seg 9 (show (0 ≤ r ∧ r < 8) ∧ (-9 = -9 → Wp 22 62 [some (vR 13), some (vR 8), some (vI r), some (vI (-9))] [] (u2 μ1 14 r (-9)) R) ∧ (¬ (-9 = -9) → Wp 22 36 [some (vR 13), some (vR 8), some (vI r), some (vI (-9))] [] (u2 μ1 14 r (-9)) R) from ⟨by omega, fun _ => ?_, fun z => absurd z (by decide)⟩)
        refine seg 2 (show iR (r + 1) ∧ Wp 22 2 [some (vR 13), some (vR 8), some (vI (r + 1)), some (vI (-9))] [] (u2 μ1 14 r (-9)) R from ⟨by omega, ?_⟩)
        obtain ⟨μ5, hμ5⟩ : ∃ z, z = u2 μ1 14 r (-9) := ⟨_, rfl⟩
        rw [← hμ5]
        have e5 : ∀ q, q ≠ 14 → μ5 q = μ1 q := fun q hq => by rw [hμ5]; exact u2_ne hq
        refine ih (r + 1) μ5 _ (by omega) (by omega) (fun q h1 h2 h3 h4 h5 => by rw [e5 q h1, f1 q h2 h3 h4]; exact hF q h1 h2 h3 h4 h5) (fun x hx0 hx1 hx2 => ?_) (fun x k h1 h2 h3 h4 h5 => by
          rw [e5 _ (by decide)]
          by_cases hxr : x = r
          · subst hxr; exact f2 k h4 h5
          · rw [f3 _ (by omega)]; exact hJ x k h1 h2 (by omega) h4 h5)
        by_cases hxr : x = r
        · subst hxr
          first
          | (exfalso; omega)
          | (refine ⟨by rw [hμ5, u2_at, up1_s], ?_, ?_⟩
             · unfold prI
               rw [if_pos (by omega)]
               exact ⟨fun k h0 h8 => by rw [e5 _ (by decide)]; exact f2 k h0 h8, by rw [e5 _ (by decide), f4, up1_s]; exact Bts.zero⟩
             · rw [e5 _ (by decide), f5, up1_s]
               unfold cmA
               rw [if_pos (by omega)])
        · have hI2 := hI x hx0 (by omega) hx2
          refine ⟨by rw [hμ5, u2_at, up1_n hxr, f1 _ (by decide) (by decide) (by decide)]; exact hI2.1, ⟨fun k h0 h8 => ?_, ?_⟩, ?_⟩
          · rw [e5 _ (by decide), f3 _ (by omega)]
            exact hI2.2.1.1 k h0 h8
          · rw [e5 _ (by decide), f4, up1_n hxr]
            exact hI2.2.1.2
          · rw [e5 _ (by decide), f5, up1_n hxr]
            exact hI2.2.2
theorem s22_13 {G : Hi} {R : Po} {μ : Mu} (hc : GC G μ) (hw : μ 13 0 = 0) (hk : ∀ μ2 : Mu, (∀ q, q ≠ 14 → q ≠ 15 → q ≠ 16 → q ≠ 17 → q ≠ 18 → μ2 q = μ q) → (∀ x, 0 ≤ x → x < hN G → PrC13 G μ2 x) → (∀ x k, hN G ≤ x → 0 ≤ x → x < 8 → 0 ≤ k → k < 8 → μ2 15 (x * 8 + k) = -9) → R none μ2) : Wp 22 0 [some (vR 13), some (vR 8), none, none] [] μ R := by
  refine seg 2 (show Wp 22 2 [some (vR 13), some (vR 8), some (vI 0), none] [] μ R from ?_)
  exact l22_13 hc hw hk 8 0 μ none (by decide) (by decide) (fun _ _ _ _ _ _ => rfl) (fun x h1 h2 _ => absurd h2 (by omega)) (fun x k _ h1 h2 => absurd h2 (by omega))
theorem l23_19 {r : Int} {R : Po} {μ0 : Mu} (hr : 0 ≤ r ∧ r < 8) (hk : ∀ μ : Mu, (∀ q, q ≠ 21 → μ q = μ0 q) → (∀ x, μ 21 x = if r * 8 ≤ x ∧ x < r * 8 + 8 then -9 else μ0 21 x) → R none (u2 (u2 μ 22 r 0) 23 r (-9))) : ∀ (n : Nat) (k : Int) (μ : Mu), 8 - k = n → 0 ≤ k → (∀ q, q ≠ 21 → μ q = μ0 q) → (∀ x, μ 21 x = if r * 8 ≤ x ∧ x < r * 8 + k then -9 else μ0 21 x) → Wp 23 2 [some (vR 19), some (vI r), some (vI k)] [] μ R := by
  intro n
  induction n with
  | zero =>
    intro k μ hn h0 hF hA
    refine seg 3 (show (8 ≤ k → Wp 23 26 [some (vR 19), some (vI r), some (vI k)] [] μ R) ∧ (¬ (8 ≤ k) → Wp 23 8 [some (vR 19), some (vI r), some (vI k)] [] μ R) from ⟨fun c1 => ?_, fun c1 => ?_⟩)
    ·
      refine seg 11 (show (0 ≤ r ∧ r < 8) ∧ (0 ≤ r ∧ r < 8) ∧ R none (u2 (u2 μ 22 r 0) 23 r (-9)) from ⟨by omega, by omega, ?_⟩)
      first | (obtain rfl : k = 8 := (by omega); exact hk μ hF hA) | (exfalso; omega)
    ·
      refine seg 5 (show Wp 114 0 [some (vI r), some (vI k)] [] μ (fun rr μ' => Wp 23 17 [some (vR 19), some (vI r), some (vI k)] (rr.toList ++ [vR 21]) μ' R) from ?_)
      refine s114 (by omega) ?_
      refine seg 4 (show (0 ≤ (r * 8 + k) ∧ (r * 8 + k) < 64) ∧ iR (k + 1) ∧ Wp 23 2 [some (vR 19), some (vI r), some (vI (k + 1))] [] (u2 μ 21 (r * 8 + k) (-9)) R from ⟨by omega, by omega, ?_⟩)
      exfalso; omega
  | succ n ih =>
    intro k μ hn h0 hF hA
    refine seg 3 (show (8 ≤ k → Wp 23 26 [some (vR 19), some (vI r), some (vI k)] [] μ R) ∧ (¬ (8 ≤ k) → Wp 23 8 [some (vR 19), some (vI r), some (vI k)] [] μ R) from ⟨fun c2 => ?_, fun c2 => ?_⟩)
    ·
      refine seg 11 (show (0 ≤ r ∧ r < 8) ∧ (0 ≤ r ∧ r < 8) ∧ R none (u2 (u2 μ 22 r 0) 23 r (-9)) from ⟨by omega, by omega, ?_⟩)
      first | (obtain rfl : k = 8 := (by omega); exact hk μ hF hA) | (exfalso; omega)
    ·
      refine seg 5 (show Wp 114 0 [some (vI r), some (vI k)] [] μ (fun rr μ' => Wp 23 17 [some (vR 19), some (vI r), some (vI k)] (rr.toList ++ [vR 21]) μ' R) from ?_)
      refine s114 (by omega) ?_
      refine seg 4 (show (0 ≤ (r * 8 + k) ∧ (r * 8 + k) < 64) ∧ iR (k + 1) ∧ Wp 23 2 [some (vR 19), some (vI r), some (vI (k + 1))] [] (u2 μ 21 (r * 8 + k) (-9)) R from ⟨by omega, by omega, ?_⟩)
      refine ih (k + 1) _ (by omega) (by omega) (fun q hq => by rw [u2_ne hq]; exact hF q hq) (fun x => ?_)
      rw [u2_at]
      by_cases hx : x = r * 8 + k
      · subst hx; rw [up1_s, if_pos (by omega)]
      · rw [up1_n hx, hA x]
        by_cases hq : r * 8 ≤ x ∧ x < r * 8 + k
        · rw [if_pos hq, if_pos (by omega)]
        · rw [if_neg hq, if_neg (by omega)]
theorem s23_19 {r : Int} {R : Po} {μ : Mu} (hr : 0 ≤ r ∧ r < 8) (hk : ∀ μ2 : Mu, (∀ q, q ≠ 21 → q ≠ 22 → q ≠ 23 → μ2 q = μ q) → (∀ k, 0 ≤ k → k < 8 → μ2 21 (r * 8 + k) = -9) → (∀ x, ¬ (r * 8 ≤ x ∧ x < r * 8 + 8) → μ2 21 x = μ 21 x) → μ2 22 = up1 (μ 22) r 0 → μ2 23 = up1 (μ 23) r (-9) → R none μ2) : Wp 23 0 [some (vR 19), some (vI r), none] [] μ R := by
  refine seg 2 (show Wp 23 2 [some (vR 19), some (vI r), some (vI 0)] [] μ R from ?_)
  refine l23_19 hr (fun μ1 hF hA => hk _ (fun q h1 h2 h3 => by rw [u2_ne h3, u2_ne h2]; exact hF q h1) (fun k h0 h8 => ?_) (fun x hx => ?_) ?_ ?_) 8 0 μ (by decide) (by decide) (fun _ _ => rfl) (fun x => by rw [if_neg (by omega)])
  · rw [u2_ne (by decide), u2_ne (by decide), hA, if_pos (by omega)]
  · rw [u2_ne (by decide), u2_ne (by decide), hA, if_neg hx]
  · rw [u2_ne (by decide), u2_at, hF 22 (by decide)]
  · rw [u2_at, u2_ne (by decide), hF 23 (by decide)]
theorem l27_19 {G : Hi} {p r : Int} {R : Po} {μ0 : Mu} (hc0 : GC G μ0) (hp : 0 ≤ p ∧ p < hN G) (hr : 0 ≤ r ∧ r < hN G) (hT0 : Tab (μ0 24) (hL G p) (hL G r) (hS G p) (hS G r) (-1) (hS G r)) : ∀ (n : Nat) (i j : Int) (P I : Int → Int) (μ : Mu) (o6 : Option PV), (hS G p - i).toNat + (hS G r - j).toNat < n → 0 ≤ i → 0 ≤ j → i ≤ hS G p → j ≤ hS G r → ((∀ q, q ≠ 21 → q ≠ 22 → μ q = μ0 q) ∧ (∀ x, ¬ (r * 8 ≤ x ∧ x < r * 8 + 8) → μ 21 x = μ0 21 x) ∧ (∀ y, y ≠ r → μ 22 y = μ0 22 y)) → Prs (μ 21) (μ 22) r (P, I) → (∀ μ2 : Mu, ((∀ q, q ≠ 21 → q ≠ 22 → μ2 q = μ0 q) ∧ (∀ x, ¬ (r * 8 ≤ x ∧ x < r * 8 + 8) → μ2 21 x = μ0 21 x) ∧ (∀ y, y ≠ r → μ2 22 y = μ0 22 y)) → Prs (μ2 21) (μ2 22) r (wk (hL G p) (hL G r) (hS G p) (hS G r) n i j P I) → R none μ2) → Wp 27 6 [some (vR 19), some (vR 8), some (vI p), some (vI r), some (vI i), some (vI j), o6] [] μ R := by
  intro n
  induction n with
  | zero =>
    intro i j P I μ o6 hn
    exact absurd hn (by omega)
  | succ n ih =>
    intro i j P I μ o6 hn hi hj hi2 hj2 hF hP hk
    have hc := hc0.fr (hF.1 8 (by decide) (by decide)) (hF.1 9 (by decide) (by decide)) (hF.1 10 (by decide) (by decide)) (hF.1 11 (by decide) (by decide))
    have h2 := hc.1.n
    have hsp := hc.1.s hp
    have hsr := hc.1.s hr
    have hT : Tab (μ 24) (hL G p) (hL G r) (hS G p) (hS G r) (-1) (hS G r) := by rw [hF.1 24 (by decide) (by decide)]; exact hT0
    rw [wk] at hk
    refine seg 4 (show Wp 46 0 [some (vR 8), some (vI p)] [] μ (fun rr μ' => Wp 27 13 [some (vR 19), some (vR 8), some (vI p), some (vI r), some (vI i), some (vI j), o6] (rr.toList ++ [vI i]) μ' R) from ?_)
    refine g46 hc (by omega) ?_
    refine seg 1 (show (hS G p ≤ i → Wp 27 133 [some (vR 19), some (vR 8), some (vI p), some (vI r), some (vI i), some (vI j), o6] [] μ R) ∧ (¬ (hS G p ≤ i) → Wp 27 16 [some (vR 19), some (vR 8), some (vI p), some (vI r), some (vI i), some (vI j), o6] [] μ R) from ⟨fun c1 => ?_, fun c1 => ?_⟩)
    ·
      refine seg 1 (show R none μ from ?_)
      rw [if_neg (by omega)] at hk
      exact hk μ hF hP
    ·
      refine seg 4 (show Wp 46 0 [some (vR 8), some (vI r)] [] μ (fun rr μ' => Wp 27 23 [some (vR 19), some (vR 8), some (vI p), some (vI r), some (vI i), some (vI j), o6] (rr.toList ++ [vI j]) μ' R) from ?_)
      refine g46 hc (by omega) ?_
      refine seg 1 (show (hS G r ≤ j → Wp 27 133 [some (vR 19), some (vR 8), some (vI p), some (vI r), some (vI i), some (vI j), o6] [] μ R) ∧ (¬ (hS G r ≤ j) → Wp 27 26 [some (vR 19), some (vR 8), some (vI p), some (vI r), some (vI i), some (vI j), o6] [] μ R) from ⟨fun c2 => ?_, fun c2 => ?_⟩)
      ·
        refine seg 1 (show R none μ from ?_)
        rw [if_neg (by omega)] at hk
        exact hk μ hF hP
      ·
        refine seg 4 (show Wp 48 0 [some (vR 8), some (vI p), some (vI i)] [] μ (fun rr μ' => Wp 27 33 [some (vR 19), some (vR 8), some (vI p), some (vI r), some (vI i), some (vI j), o6] (rr.toList ++ []) μ' R) from ?_)
        refine g48 hc (by omega) (by omega) ?_
        refine seg 4 (show Wp 48 0 [some (vR 8), some (vI r), some (vI j)] [] μ (fun rr μ' => Wp 27 40 [some (vR 19), some (vR 8), some (vI p), some (vI r), some (vI i), some (vI j), o6] (rr.toList ++ [vI (hL G p i)]) μ' R) from ?_)
        refine g48 hc (by omega) (by omega) ?_
        refine seg 1 (show (¬ (hL G p i = hL G r j) → Wp 27 47 [some (vR 19), some (vR 8), some (vI p), some (vI r), some (vI i), some (vI j), o6] [] μ R) ∧ (hL G p i = hL G r j → Wp 27 43 [some (vR 19), some (vR 8), some (vI p), some (vI r), some (vI i), some (vI j), o6] [] μ R) from ⟨fun c3 => ?_, fun c3 => ?_⟩)
        ·
          refine seg 4 (show (0 = 0 → Wp 27 98 [some (vR 19), some (vR 8), some (vI p), some (vI r), some (vI i), some (vI j), some (vI 0)] [] μ R) ∧ (¬ (0 = 0) → Wp 27 55 [some (vR 19), some (vR 8), some (vI p), some (vI r), some (vI i), some (vI j), some (vI 0)] [] μ R) from ⟨fun _ => ?_, fun z => absurd z (by decide)⟩)
          refine seg 6 (show iR (i + 1) ∧ Wp 25 0 [some (vR 19), some (vI (i + 1)), some (vI j)] [] μ (fun rr μ' => Wp 27 108 [some (vR 19), some (vR 8), some (vI p), some (vI r), some (vI i), some (vI j), some (vI 0)] (rr.toList ++ []) μ' R) from ⟨by omega, ?_⟩)
          refine s25v_19 (by omega) ?_
          refine seg 6 (show iR (j + 1) ∧ Wp 25 0 [some (vR 19), some (vI i), some (vI (j + 1))] [] μ (fun rr μ' => Wp 27 118 [some (vR 19), some (vR 8), some (vI p), some (vI r), some (vI i), some (vI j), some (vI 0)] (rr.toList ++ [vI (μ 24 ((i + 1) * 9 + j))]) μ' R) from ⟨by omega, ?_⟩)
          refine s25v_19 (by omega) ?_
          refine seg 1 (show (μ 24 ((i + 1) * 9 + j) < μ 24 (i * 9 + (j + 1)) → Wp 27 127 [some (vR 19), some (vR 8), some (vI p), some (vI r), some (vI i), some (vI j), some (vI 0)] [] μ R) ∧ (¬ (μ 24 ((i + 1) * 9 + j) < μ 24 (i * 9 + (j + 1))) → Wp 27 121 [some (vR 19), some (vR 8), some (vI p), some (vI r), some (vI i), some (vI j), some (vI 0)] [] μ R) from ⟨fun c4 => ?_, fun c4 => ?_⟩)
          ·
            refine seg 2 (show iR (j + 1) ∧ Wp 27 6 [some (vR 19), some (vR 8), some (vI p), some (vI r), some (vI i), some (vI (j + 1)), some (vI 0)] [] μ R from ⟨by omega, ?_⟩)
            rw [if_pos (by omega)] at hk
            rw [if_neg (fun z => by first | exact absurd z.1 (by assumption) | (have z2 := z.2; rw [← hT.all (by omega) (by omega), ← hT.all (by omega) (by omega)] at z2; exact absurd z2 (by assumption)))] at hk
            rw [if_neg (by rw [← hT.all (by omega) (by omega), ← hT.all (by omega) (by omega)]; omega)] at hk
            exact ih _ _ _ _ _ _ (by omega) (by omega) (by omega) (by omega) (by omega) hF hP hk
          ·
            refine seg 3 (show iR (i + 1) ∧ Wp 27 6 [some (vR 19), some (vR 8), some (vI p), some (vI r), some (vI (i + 1)), some (vI j), some (vI 0)] [] μ R from ⟨by omega, ?_⟩)
            rw [if_pos (by omega)] at hk
            rw [if_neg (fun z => by first | exact absurd z.1 (by assumption) | (have z2 := z.2; rw [← hT.all (by omega) (by omega), ← hT.all (by omega) (by omega)] at z2; exact absurd z2 (by assumption)))] at hk
            rw [if_pos (by rw [← hT.all (by omega) (by omega), ← hT.all (by omega) (by omega)]; omega)] at hk
            exact ih _ _ _ _ _ _ (by omega) (by omega) (by omega) (by omega) (by omega) hF hP hk
        ·
          refine seg 5 (show (1 = 0 → Wp 27 98 [some (vR 19), some (vR 8), some (vI p), some (vI r), some (vI i), some (vI j), some (vI 1)] [] μ R) ∧ (¬ (1 = 0) → Wp 27 55 [some (vR 19), some (vR 8), some (vI p), some (vI r), some (vI i), some (vI j), some (vI 1)] [] μ R) from ⟨fun z => absurd z (by decide), fun _ => ?_⟩)
          refine seg 4 (show Wp 25 0 [some (vR 19), some (vI i), some (vI j)] [] μ (fun rr μ' => Wp 27 63 [some (vR 19), some (vR 8), some (vI p), some (vI r), some (vI i), some (vI j), some (vI 1)] (rr.toList ++ []) μ' R) from ?_)
          refine s25v_19 (by omega) ?_
          refine seg 8 (show iR (i + 1) ∧ iR (j + 1) ∧ Wp 25 0 [some (vR 19), some (vI (i + 1)), some (vI (j + 1))] [] μ (fun rr μ' => Wp 27 75 [some (vR 19), some (vR 8), some (vI p), some (vI r), some (vI i), some (vI j), some (vI 1)] (rr.toList ++ [vI (μ 24 (i * 9 + j))]) μ' R) from ⟨by omega, by omega, ?_⟩)
          refine s25v_19 (by omega) ?_
          refine seg 3 (show iR ((μ 24 ((i + 1) * 9 + (j + 1))) + 1) ∧ (¬ (μ 24 (i * 9 + j) = (μ 24 ((i + 1) * 9 + (j + 1))) + 1) → Wp 27 98 [some (vR 19), some (vR 8), some (vI p), some (vI r), some (vI i), some (vI j), some (vI 1)] [] μ R) ∧ (μ 24 (i * 9 + j) = (μ 24 ((i + 1) * 9 + (j + 1))) + 1 → Wp 27 80 [some (vR 19), some (vR 8), some (vI p), some (vI r), some (vI i), some (vI j), some (vI 1)] [] μ R) from ⟨by have := tab_rg (a := i + 1) (b := j + 1) hT (by omega) (by omega) (by omega) (by omega); omega, fun c5 => ?_, fun c5 => ?_⟩)
          ·
            refine seg 6 (show iR (i + 1) ∧ Wp 25 0 [some (vR 19), some (vI (i + 1)), some (vI j)] [] μ (fun rr μ' => Wp 27 108 [some (vR 19), some (vR 8), some (vI p), some (vI r), some (vI i), some (vI j), some (vI 1)] (rr.toList ++ []) μ' R) from ⟨by omega, ?_⟩)
            refine s25v_19 (by omega) ?_
            refine seg 6 (show iR (j + 1) ∧ Wp 25 0 [some (vR 19), some (vI i), some (vI (j + 1))] [] μ (fun rr μ' => Wp 27 118 [some (vR 19), some (vR 8), some (vI p), some (vI r), some (vI i), some (vI j), some (vI 1)] (rr.toList ++ [vI (μ 24 ((i + 1) * 9 + j))]) μ' R) from ⟨by omega, ?_⟩)
            refine s25v_19 (by omega) ?_
            refine seg 1 (show (μ 24 ((i + 1) * 9 + j) < μ 24 (i * 9 + (j + 1)) → Wp 27 127 [some (vR 19), some (vR 8), some (vI p), some (vI r), some (vI i), some (vI j), some (vI 1)] [] μ R) ∧ (¬ (μ 24 ((i + 1) * 9 + j) < μ 24 (i * 9 + (j + 1))) → Wp 27 121 [some (vR 19), some (vR 8), some (vI p), some (vI r), some (vI i), some (vI j), some (vI 1)] [] μ R) from ⟨fun c6 => ?_, fun c6 => ?_⟩)
            ·
              refine seg 2 (show iR (j + 1) ∧ Wp 27 6 [some (vR 19), some (vR 8), some (vI p), some (vI r), some (vI i), some (vI (j + 1)), some (vI 1)] [] μ R from ⟨by omega, ?_⟩)
              rw [if_pos (by omega)] at hk
              rw [if_neg (fun z => by first | exact absurd z.1 (by assumption) | (have z2 := z.2; rw [← hT.all (by omega) (by omega), ← hT.all (by omega) (by omega)] at z2; exact absurd z2 (by assumption)))] at hk
              rw [if_neg (by rw [← hT.all (by omega) (by omega), ← hT.all (by omega) (by omega)]; omega)] at hk
              exact ih _ _ _ _ _ _ (by omega) (by omega) (by omega) (by omega) (by omega) hF hP hk
            ·
              refine seg 3 (show iR (i + 1) ∧ Wp 27 6 [some (vR 19), some (vR 8), some (vI p), some (vI r), some (vI (i + 1)), some (vI j), some (vI 1)] [] μ R from ⟨by omega, ?_⟩)
              rw [if_pos (by omega)] at hk
              rw [if_neg (fun z => by first | exact absurd z.1 (by assumption) | (have z2 := z.2; rw [← hT.all (by omega) (by omega), ← hT.all (by omega) (by omega)] at z2; exact absurd z2 (by assumption)))] at hk
              rw [if_pos (by rw [← hT.all (by omega) (by omega), ← hT.all (by omega) (by omega)]; omega)] at hk
              exact ih _ _ _ _ _ _ (by omega) (by omega) (by omega) (by omega) (by omega) hF hP hk
          ·
            refine seg 5 (show Wp 28 0 [some (vR 19), some (vI r), some (vI i), some (vI j)] [] μ (fun rr μ' => Wp 27 89 [some (vR 19), some (vR 8), some (vI p), some (vI r), some (vI i), some (vI j), some (vI 1)] (rr.toList ++ []) μ' R) from ?_)
            refine s28v_19 (by omega) (hP.2.1.1) ?_
            refine seg 4 (show iR (i + 1) ∧ iR (j + 1) ∧ Wp 27 6 [some (vR 19), some (vR 8), some (vI p), some (vI r), some (vI (i + 1)), some (vI (j + 1)), some (vI 1)] [] (u2 (u2 μ 21 (r * 8 + j) i) 22 r ((Int.toNat (μ 22 r) ||| Int.toNat (1 * 2 ^ (i : Int).toNat) : Nat) : Int)) R from ⟨by omega, by omega, ?_⟩)
            rw [if_pos (by omega)] at hk
            rw [if_pos ⟨by assumption, by rw [← hT.all (by omega) (by omega), ← hT.all (by omega) (by omega)]; assumption⟩] at hk
            refine ih _ _ _ _ _ _ (by omega) (by omega) (by omega) (by omega) (by omega) ⟨fun q h1 h2 => by rw [u2_ne h2, u2_ne h1]; exact hF.1 q h1 h2, fun x hx => by rw [u2_ne (by decide), u2_at, up1_n (by omega)]; exact hF.2.1 x hx, fun y hy => by rw [u2_at, u2_ne (by decide), up1_n hy]; exact hF.2.2 y hy⟩ ?_ hk
            rw [u2_ne (by decide), u2_at, u2_at, u2_ne (by decide)]
            exact hP.pair (by omega)
theorem s27_19 {G : Hi} {p r : Int} {R : Po} {μ : Mu} (hc : GC G μ) (hp : 0 ≤ p ∧ p < hN G) (hr : 0 ≤ r ∧ r < hN G) (hT : Tab (μ 24) (hL G p) (hL G r) (hS G p) (hS G r) (-1) (hS G r)) (hP : Prs (μ 21) (μ 22) r (fun _ => -9, fun _ => 0)) (hk : ∀ μ2 : Mu, ((∀ q, q ≠ 21 → q ≠ 22 → μ2 q = μ q) ∧ (∀ x, ¬ (r * 8 ≤ x ∧ x < r * 8 + 8) → μ2 21 x = μ 21 x) ∧ (∀ y, y ≠ r → μ2 22 y = μ 22 y)) → Prs (μ2 21) (μ2 22) r (wk (hL G p) (hL G r) (hS G p) (hS G r) 17 0 0 (fun _ => -9) (fun _ => 0)) → R none μ2) : Wp 27 0 [some (vR 19), some (vR 8), some (vI p), some (vI r), none, none, none] [] μ R := by
  have hsp := hc.1.s hp
  have hsr := hc.1.s hr
  refine seg 4 (show Wp 27 6 [some (vR 19), some (vR 8), some (vI p), some (vI r), some (vI 0), some (vI 0), none] [] μ R from ?_)
  exact l27_19 hc hp hr hT 17 0 0 _ _ μ none (by omega) (by decide) (by decide) (by omega) (by omega) ⟨fun _ _ _ => rfl, fun _ _ => rfl, fun _ _ => rfl⟩ hP hk
/-- a revision's rows in a Pairing -/
def PrC19 (G : Hi) (μ : Mu) (r : Int) : Prop := μ 20 r = hP G r 1 ∧ Prs (μ 21) (μ 22) r (prI G r 1) ∧ μ 23 r = cmA G r 1
theorem l22_19 {G : Hi} {R : Po} {μ0 : Mu} (hc0 : GC G μ0) (hw0 : μ0 19 0 = 1) (hk : ∀ μ : Mu, (∀ q, q ≠ 20 → q ≠ 21 → q ≠ 22 → q ≠ 23 → q ≠ 24 → μ q = μ0 q) → (∀ x, 0 ≤ x → x < hN G → PrC19 G μ x) → (∀ x k, hN G ≤ x → 0 ≤ x → x < 8 → 0 ≤ k → k < 8 → μ 21 (x * 8 + k) = -9) → R none μ) : ∀ (n : Nat) (r : Int) (μ : Mu) (o3 : Option PV), 8 - r = n → 0 ≤ r → (∀ q, q ≠ 20 → q ≠ 21 → q ≠ 22 → q ≠ 23 → q ≠ 24 → μ q = μ0 q) → (∀ x, 0 ≤ x → x < r → x < hN G → PrC19 G μ x) → (∀ x k, hN G ≤ x → 0 ≤ x → x < r → 0 ≤ k → k < 8 → μ 21 (x * 8 + k) = -9) → Wp 22 2 [some (vR 19), some (vR 8), some (vI r), o3] [] μ R := by
  intro n
  induction n with
  | zero =>
    intro r μ o3 hn h0 hF hI hJ
    have hc := hc0.fr (hF 8 (by decide) (by decide) (by decide) (by decide) (by decide)) (hF 9 (by decide) (by decide) (by decide) (by decide) (by decide)) (hF 10 (by decide) (by decide) (by decide) (by decide) (by decide)) (hF 11 (by decide) (by decide) (by decide) (by decide) (by decide))
    refine seg 3 (show (8 ≤ r → Wp 22 68 [some (vR 19), some (vR 8), some (vI r), o3] [] μ R) ∧ (¬ (8 ≤ r) → Wp 22 8 [some (vR 19), some (vR 8), some (vI r), o3] [] μ R) from ⟨fun c1 => ?_, fun c1 => ?_⟩)
    ·
      refine seg 1 (show R none μ from ?_)
      first | exact hk μ hF (fun x h1 h2 => hI x h1 (by have := hc.1.n; omega) h2) (fun x k h1 h2 h3 h4 h5 => hJ x k h1 h2 (by omega) h4 h5) | (exfalso; omega)
    ·
      refine seg 3 (show Wp 23 0 [some (vR 19), some (vI r), none] [] μ (fun rr μ' => Wp 22 13 [some (vR 19), some (vR 8), some (vI r), o3] (rr.toList ++ []) μ' R) from ?_)
      exfalso; omega
  | succ n ih =>
    intro r μ o3 hn h0 hF hI hJ
    have hc := hc0.fr (hF 8 (by decide) (by decide) (by decide) (by decide) (by decide)) (hF 9 (by decide) (by decide) (by decide) (by decide) (by decide)) (hF 10 (by decide) (by decide) (by decide) (by decide) (by decide)) (hF 11 (by decide) (by decide) (by decide) (by decide) (by decide))
    refine seg 3 (show (8 ≤ r → Wp 22 68 [some (vR 19), some (vR 8), some (vI r), o3] [] μ R) ∧ (¬ (8 ≤ r) → Wp 22 8 [some (vR 19), some (vR 8), some (vI r), o3] [] μ R) from ⟨fun c2 => ?_, fun c2 => ?_⟩)
    ·
      refine seg 1 (show R none μ from ?_)
      first | exact hk μ hF (fun x h1 h2 => hI x h1 (by have := hc.1.n; omega) h2) (fun x k h1 h2 h3 h4 h5 => hJ x k h1 h2 (by omega) h4 h5) | (exfalso; omega)
    ·
      refine seg 3 (show Wp 23 0 [some (vR 19), some (vI r), none] [] μ (fun rr μ' => Wp 22 13 [some (vR 19), some (vR 8), some (vI r), o3] (rr.toList ++ []) μ' R) from ?_)
      refine s23_19 (by omega) (fun μ1 f1 f2 f3 f4 f5 => ?_)
      have hc1 := hc.fr (f1 8 (by decide) (by decide) (by decide)) (f1 9 (by decide) (by decide) (by decide)) (f1 10 (by decide) (by decide) (by decide)) (f1 11 (by decide) (by decide) (by decide))
      have hw1 : μ1 19 0 = 1 := by rw [f1 19 (by decide) (by decide) (by decide), hF 19 (by decide) (by decide) (by decide) (by decide) (by decide)]; exact hw0
      refine seg 5 (show Wp 47 0 [some (vR 8), some (vI r), some (vI (μ1 19 0))] [] μ1 (fun rr μ' => Wp 22 22 [some (vR 19), some (vR 8), some (vI r), o3] (rr.toList ++ []) μ' R) from ?_)
      by_cases hrn : r < hN G
      ·
        refine g47w hc1 (by omega) hw1 (by decide) ?_
        refine seg 9 (show (0 ≤ r ∧ r < 8) ∧ (hP G r 1 = -9 → Wp 22 62 [some (vR 19), some (vR 8), some (vI r), some (vI (hP G r 1))] [] (u2 μ1 20 r (hP G r 1)) R) ∧ (¬ (hP G r 1 = -9) → Wp 22 36 [some (vR 19), some (vR 8), some (vI r), some (vI (hP G r 1))] [] (u2 μ1 20 r (hP G r 1)) R) from ⟨by omega, fun c3 => ?_, fun c3 => ?_⟩)
        ·
          refine seg 2 (show iR (r + 1) ∧ Wp 22 2 [some (vR 19), some (vR 8), some (vI (r + 1)), some (vI (hP G r 1))] [] (u2 μ1 20 r (hP G r 1)) R from ⟨by omega, ?_⟩)
          obtain ⟨μ5, hμ5⟩ : ∃ z, z = u2 μ1 20 r (hP G r 1) := ⟨_, rfl⟩
          rw [← hμ5]
          have e5 : ∀ q, q ≠ 20 → μ5 q = μ1 q := fun q hq => by rw [hμ5]; exact u2_ne hq
          refine ih (r + 1) μ5 _ (by omega) (by omega) (fun q h1 h2 h3 h4 h5 => by rw [e5 q h1, f1 q h2 h3 h4]; exact hF q h1 h2 h3 h4 h5) (fun x hx0 hx1 hx2 => ?_) (fun x k h1 h2 h3 h4 h5 => by
            rw [e5 _ (by decide)]
            by_cases hxr : x = r
            · subst hxr; exact f2 k h4 h5
            · rw [f3 _ (by omega)]; exact hJ x k h1 h2 (by omega) h4 h5)
          by_cases hxr : x = r
          · subst hxr
            first
            | (exfalso; omega)
            | (refine ⟨by rw [hμ5, u2_at, up1_s], ?_, ?_⟩
               · unfold prI
                 rw [if_pos (by omega)]
                 exact ⟨fun k h0 h8 => by rw [e5 _ (by decide)]; exact f2 k h0 h8, by rw [e5 _ (by decide), f4, up1_s]; exact Bts.zero⟩
               · rw [e5 _ (by decide), f5, up1_s]
                 unfold cmA
                 rw [if_pos (by omega)])
          · have hI2 := hI x hx0 (by omega) hx2
            refine ⟨by rw [hμ5, u2_at, up1_n hxr, f1 _ (by decide) (by decide) (by decide)]; exact hI2.1, ⟨fun k h0 h8 => ?_, ?_⟩, ?_⟩
            · rw [e5 _ (by decide), f3 _ (by omega)]
              exact hI2.2.1.1 k h0 h8
            · rw [e5 _ (by decide), f4, up1_n hxr]
              exact hI2.2.1.2
            · rw [e5 _ (by decide), f5, up1_n hxr]
              exact hI2.2.2
        ·
          refine seg 5 (show Wp 24 0 [some (vR 19), some (vR 8), some (vI (hP G r 1)), some (vI r), none, none, none, none, none, none] [] (u2 μ1 20 r (hP G r 1)) (fun rr μ' => Wp 22 43 [some (vR 19), some (vR 8), some (vI r), some (vI (hP G r 1))] (rr.toList ++ []) μ' R) from ?_)
          obtain ⟨μ2, hμ2⟩ : ∃ z, z = u2 μ1 20 r (hP G r 1) := ⟨_, rfl⟩
          rw [← hμ2]
          have e2 : ∀ q, q ≠ 20 → μ2 q = μ1 q := fun q hq => by rw [hμ2]; exact u2_ne hq
          have hc2 := hc1.fr (e2 8 (by decide)) (e2 9 (by decide)) (e2 10 (by decide)) (e2 11 (by decide))
          have hpv := hc1.1.pv (r := r) (w := 1) (by omega) (by decide) (by assumption)
          refine s24_19 hc2 (by omega) (by omega) (fun μ3 f6 hT => ?_)
          have hc3 := hc2.fr (f6 8 (by decide)) (f6 9 (by decide)) (f6 10 (by decide)) (f6 11 (by decide))
          refine seg 13 (show (0 ≤ 0 ∧ 0 < 81) ∧ (0 ≤ r ∧ r < 8) ∧ Wp 27 0 [some (vR 19), some (vR 8), some (vI (hP G r 1)), some (vI r), none, none, none] [] (u2 μ3 23 r (μ3 24 0)) (fun rr μ' => Wp 22 62 [some (vR 19), some (vR 8), some (vI r), some (vI (hP G r 1))] (rr.toList ++ []) μ' R) from ⟨by omega, by omega, ?_⟩)
          obtain ⟨μ4, hμ4⟩ : ∃ z, z = u2 μ3 23 r (μ3 24 0) := ⟨_, rfl⟩
          rw [← hμ4]
          have e4 : ∀ q, q ≠ 23 → μ4 q = μ3 q := fun q hq => by rw [hμ4]; exact u2_ne hq
          have hc4 := hc3.fr (e4 8 (by decide)) (e4 9 (by decide)) (e4 10 (by decide)) (e4 11 (by decide))
          have eA : μ4 21 = μ1 21 := by rw [e4 _ (by decide), f6 _ (by decide), e2 _ (by decide)]
          have eB : μ4 22 = μ1 22 := by rw [e4 _ (by decide), f6 _ (by decide), e2 _ (by decide)]
          refine s27_19 hc4 (by omega) (by omega) (by rw [e4 24 (by decide)]; exact hT) (by rw [eA, eB]; exact ⟨f2, by rw [f4, up1_s]; exact Bts.zero⟩) (fun μ5 f7 hP5 => ?_)
          refine seg 2 (show iR (r + 1) ∧ Wp 22 2 [some (vR 19), some (vR 8), some (vI (r + 1)), some (vI (hP G r 1))] [] μ5 R from ⟨by omega, ?_⟩)
          have eP : μ5 20 = up1 (μ1 20) r (hP G r 1) := by rw [f7.1 _ (by decide) (by decide), e4 _ (by decide), f6 _ (by decide), hμ2, u2_at]
          have eC : μ5 23 = up1 (μ1 23) r (μ3 24 0) := by rw [f7.1 _ (by decide) (by decide), hμ4, u2_at, f6 _ (by decide), e2 _ (by decide)]
          refine ih (r + 1) μ5 _ (by omega) (by omega) (fun q h1 h2 h3 h4 h5 => by rw [f7.1 q h2 h3, e4 q h4, f6 q h5, e2 q h1, f1 q h2 h3 h4]; exact hF q h1 h2 h3 h4 h5) (fun x hx0 hx1 hx2 => ?_) (fun x k h1 h2 h3 h4 h5 => by rw [f7.2.1 _ (by omega), eA, f3 _ (by omega)]; exact hJ x k h1 h2 (by omega) h4 h5)
          by_cases hxr : x = r
          · subst hxr
            refine ⟨by rw [eP, up1_s], ?_, ?_⟩
            · unfold prI
              rw [if_neg (by omega)]
              exact hP5
            · rw [eC, up1_s]
              unfold cmA
              rw [if_neg (by omega)]
              have := hT.all (a := 0) (b := 0) (by have := hc.1.s (r := hP G x 1) (by omega); omega) (by have := hc.1.s (r := x) (by omega); omega)
              exact this
          · have hI2 := hI x hx0 (by omega) hx2
            refine ⟨by rw [eP, up1_n hxr, f1 _ (by decide) (by decide) (by decide)]; exact hI2.1, ⟨fun k h0 h8 => ?_, ?_⟩, ?_⟩
            · rw [f7.2.1 _ (by omega), eA, f3 _ (by omega)]
              exact hI2.2.1.1 k h0 h8
            · rw [f7.2.2 x hxr, eB, f4, up1_n hxr]
              exact hI2.2.1.2
            · rw [eC, up1_n hxr, f5, up1_n hxr]
              exact hI2.2.2
      ·
        refine g47n hc1 (by omega) ?_
        refine seg 9 (show (0 ≤ r ∧ r < 8) ∧ (-9 = -9 → Wp 22 62 [some (vR 19), some (vR 8), some (vI r), some (vI (-9))] [] (u2 μ1 20 r (-9)) R) ∧ (¬ (-9 = -9) → Wp 22 36 [some (vR 19), some (vR 8), some (vI r), some (vI (-9))] [] (u2 μ1 20 r (-9)) R) from ⟨by omega, fun _ => ?_, fun z => absurd z (by decide)⟩)
        refine seg 2 (show iR (r + 1) ∧ Wp 22 2 [some (vR 19), some (vR 8), some (vI (r + 1)), some (vI (-9))] [] (u2 μ1 20 r (-9)) R from ⟨by omega, ?_⟩)
        obtain ⟨μ5, hμ5⟩ : ∃ z, z = u2 μ1 20 r (-9) := ⟨_, rfl⟩
        rw [← hμ5]
        have e5 : ∀ q, q ≠ 20 → μ5 q = μ1 q := fun q hq => by rw [hμ5]; exact u2_ne hq
        refine ih (r + 1) μ5 _ (by omega) (by omega) (fun q h1 h2 h3 h4 h5 => by rw [e5 q h1, f1 q h2 h3 h4]; exact hF q h1 h2 h3 h4 h5) (fun x hx0 hx1 hx2 => ?_) (fun x k h1 h2 h3 h4 h5 => by
          rw [e5 _ (by decide)]
          by_cases hxr : x = r
          · subst hxr; exact f2 k h4 h5
          · rw [f3 _ (by omega)]; exact hJ x k h1 h2 (by omega) h4 h5)
        by_cases hxr : x = r
        · subst hxr
          first
          | (exfalso; omega)
          | (refine ⟨by rw [hμ5, u2_at, up1_s], ?_, ?_⟩
             · unfold prI
               rw [if_pos (by omega)]
               exact ⟨fun k h0 h8 => by rw [e5 _ (by decide)]; exact f2 k h0 h8, by rw [e5 _ (by decide), f4, up1_s]; exact Bts.zero⟩
             · rw [e5 _ (by decide), f5, up1_s]
               unfold cmA
               rw [if_pos (by omega)])
        · have hI2 := hI x hx0 (by omega) hx2
          refine ⟨by rw [hμ5, u2_at, up1_n hxr, f1 _ (by decide) (by decide) (by decide)]; exact hI2.1, ⟨fun k h0 h8 => ?_, ?_⟩, ?_⟩
          · rw [e5 _ (by decide), f3 _ (by omega)]
            exact hI2.2.1.1 k h0 h8
          · rw [e5 _ (by decide), f4, up1_n hxr]
            exact hI2.2.1.2
          · rw [e5 _ (by decide), f5, up1_n hxr]
            exact hI2.2.2
theorem s22_19 {G : Hi} {R : Po} {μ : Mu} (hc : GC G μ) (hw : μ 19 0 = 1) (hk : ∀ μ2 : Mu, (∀ q, q ≠ 20 → q ≠ 21 → q ≠ 22 → q ≠ 23 → q ≠ 24 → μ2 q = μ q) → (∀ x, 0 ≤ x → x < hN G → PrC19 G μ2 x) → (∀ x k, hN G ≤ x → 0 ≤ x → x < 8 → 0 ≤ k → k < 8 → μ2 21 (x * 8 + k) = -9) → R none μ2) : Wp 22 0 [some (vR 19), some (vR 8), none, none] [] μ R := by
  refine seg 2 (show Wp 22 2 [some (vR 19), some (vR 8), some (vI 0), none] [] μ R from ?_)
  exact l22_19 hc hw hk 8 0 μ none (by decide) (by decide) (fun _ _ _ _ _ _ => rfl) (fun x h1 h2 _ => absurd h2 (by omega)) (fun x k _ h1 h2 => absurd h2 (by omega))
end
section
/-! MOVED in the class -/
theorem p19v {G : Hi} {μ : Mu} {R : Po} {r k : Int} (hI : PrC13 G μ r) (hb : 0 ≤ r ∧ r < 8 ∧ 0 ≤ k ∧ k < 8) (h : R (some (vI (pr G r 0 k))) μ) : Wp 19 0 [some (vR 13), some (vI r), some (vI k)] [] μ R := s19v_13 hb (by rw [hI.2.1.1 k hb.2.2.1 hb.2.2.2]; exact h)
theorem p19w {G : Hi} {μ : Mu} {R : Po} {r k : Int} (hI : PrC19 G μ r) (hb : 0 ≤ r ∧ r < 8 ∧ 0 ≤ k ∧ k < 8) (h : R (some (vI (pr G r 1 k))) μ) : Wp 19 0 [some (vR 19), some (vI r), some (vI k)] [] μ R := s19v_19 hb (by rw [hI.2.1.1 k hb.2.2.1 hb.2.2.2]; exact h)
theorem p20v {G : Hi} {μ : Mu} {R : Po} {r k : Int} (hI : PrC13 G μ r) (hb : 0 ≤ r ∧ r < 8 ∧ 0 ≤ k ∧ k < 8) (hy : ip G r k = 1 → R (some (vI 1)) μ) (hn : ip G r k = 0 → R (some (vI 0)) μ) : Wp 20 0 [some (vR 13), some (vI r), some (vI k)] [] μ R := by
  have h1 := hI.2.1.2.2 k hb.2.2.1 hb.2.2.2
  refine s20_13 hb hI.2.1.2.1.1 (fun z => hy (h1.mp z)) (fun z => hn ?_)
  rcases ip_rg G r k with h | h
  · exact h
  · exact absurd (h1.mpr h) z
def MvC (A B : Int → Int) (r k : Int) : Int × Int := (A (r * 8 + k), B (r * 8 + k))
theorem stM_out {k i j n : Int} {q : Int × Int} (h : ¬ (j ≤ k ∧ k < j + n)) : stM k q i j n = q := by
  unfold stM; rw [if_neg (fun z => h ⟨z.1, z.2.1⟩)]
theorem l15 {G : Hi} {r i j : Int} {R : Po} {μ : Mu} (hc : GC G μ) (hI : PrC13 G μ r) (hr : 0 ≤ r ∧ r < hN G) (hp : 0 ≤ hP G r 0 ∧ hP G r 0 < hN G) (hi : 0 ≤ i ∧ i ≤ 8) (hj : 0 ≤ j ∧ j ≤ 8) (hk : R (some (vI (rl G r i j))) μ) : ∀ (n : Nat) (m : Int), 9 - m = n → 0 ≤ m → rl G r i j = m + rl G r (i + m) (j + m) → Wp 15 11 [some (vR 8), some (vR 13), some (vI r), some (vI i), some (vI j), some (vI (hP G r 0)), some (vI m)] [] μ R := by
  have h2 := hc.1.n
  have hsp := hc.1.s hp
  have hsr := hc.1.s hr
  intro n
  induction n with
  | zero =>
    intro m hn h0 hm
    refine seg 3 (show (8 ≤ m → Wp 15 100 [some (vR 8), some (vR 13), some (vI r), some (vI i), some (vI j), some (vI (hP G r 0)), some (vI m)] [] μ R) ∧ (¬ (8 ≤ m) → Wp 15 18 [some (vR 8), some (vR 13), some (vI r), some (vI i), some (vI j), some (vI (hP G r 0)), some (vI m)] [] μ R) from ⟨fun c1 => ?_, fun c1 => ?_⟩)
    ·
      refine seg 2 (show R (some (vI m)) μ from ?_)
      have e0 := rl_out (G := G) (r := r) (i := i + m) (j := j + m) (fun z => by first | (have := z.1; omega) | exact absurd z.2.1 (by assumption) | exact absurd z.2.2.1 (by omega) | exact absurd z.2.2.2 (by assumption))
      have e1 : m = rl G r i j := by omega
      rw [e1]; exact hk
    ·
      refine seg 6 (show iR (i + m) ∧ Wp 46 0 [some (vR 8), some (vI (hP G r 0))] [] μ (fun rr μ' => Wp 15 28 [some (vR 8), some (vR 13), some (vI r), some (vI i), some (vI j), some (vI (hP G r 0)), some (vI m)] (rr.toList ++ [vI (i + m)]) μ' R) from ⟨by omega, ?_⟩)
      refine g46 hc (by omega) ?_
      refine seg 1 (show (hS G (hP G r 0) ≤ i + m → Wp 15 100 [some (vR 8), some (vR 13), some (vI r), some (vI i), some (vI j), some (vI (hP G r 0)), some (vI m)] [] μ R) ∧ (¬ (hS G (hP G r 0) ≤ i + m) → Wp 15 31 [some (vR 8), some (vR 13), some (vI r), some (vI i), some (vI j), some (vI (hP G r 0)), some (vI m)] [] μ R) from ⟨fun c2 => ?_, fun c2 => ?_⟩)
      ·
        refine seg 2 (show R (some (vI m)) μ from ?_)
        have e0 := rl_out (G := G) (r := r) (i := i + m) (j := j + m) (fun z => by first | (have := z.1; omega) | exact absurd z.2.1 (by assumption) | exact absurd z.2.2.1 (by omega) | exact absurd z.2.2.2 (by assumption))
        have e1 : m = rl G r i j := by omega
        rw [e1]; exact hk
      ·
        refine seg 6 (show iR (j + m) ∧ Wp 46 0 [some (vR 8), some (vI r)] [] μ (fun rr μ' => Wp 15 41 [some (vR 8), some (vR 13), some (vI r), some (vI i), some (vI j), some (vI (hP G r 0)), some (vI m)] (rr.toList ++ [vI (j + m)]) μ' R) from ⟨by omega, ?_⟩)
        refine g46 hc (by omega) ?_
        refine seg 1 (show (hS G r ≤ j + m → Wp 15 100 [some (vR 8), some (vR 13), some (vI r), some (vI i), some (vI j), some (vI (hP G r 0)), some (vI m)] [] μ R) ∧ (¬ (hS G r ≤ j + m) → Wp 15 44 [some (vR 8), some (vR 13), some (vI r), some (vI i), some (vI j), some (vI (hP G r 0)), some (vI m)] [] μ R) from ⟨fun c3 => ?_, fun c3 => ?_⟩)
        ·
          refine seg 2 (show R (some (vI m)) μ from ?_)
          have e0 := rl_out (G := G) (r := r) (i := i + m) (j := j + m) (fun z => by first | (have := z.1; omega) | exact absurd z.2.1 (by assumption) | exact absurd z.2.2.1 (by omega) | exact absurd z.2.2.2 (by assumption))
          have e1 : m = rl G r i j := by omega
          rw [e1]; exact hk
        ·
          refine seg 6 (show iR (i + m) ∧ Wp 48 0 [some (vR 8), some (vI (hP G r 0)), some (vI (i + m))] [] μ (fun rr μ' => Wp 15 54 [some (vR 8), some (vR 13), some (vI r), some (vI i), some (vI j), some (vI (hP G r 0)), some (vI m)] (rr.toList ++ []) μ' R) from ⟨by omega, ?_⟩)
          refine g48 hc (by omega) (by omega) ?_
          refine seg 6 (show iR (j + m) ∧ Wp 48 0 [some (vR 8), some (vI r), some (vI (j + m))] [] μ (fun rr μ' => Wp 15 64 [some (vR 8), some (vR 13), some (vI r), some (vI i), some (vI j), some (vI (hP G r 0)), some (vI m)] (rr.toList ++ [vI (hL G (hP G r 0) (i + m))]) μ' R) from ⟨by omega, ?_⟩)
          refine g48 hc (by omega) (by omega) ?_
          refine seg 1 (show (¬ (hL G (hP G r 0) (i + m) = hL G r (j + m)) → Wp 15 100 [some (vR 8), some (vR 13), some (vI r), some (vI i), some (vI j), some (vI (hP G r 0)), some (vI m)] [] μ R) ∧ (hL G (hP G r 0) (i + m) = hL G r (j + m) → Wp 15 67 [some (vR 8), some (vR 13), some (vI r), some (vI i), some (vI j), some (vI (hP G r 0)), some (vI m)] [] μ R) from ⟨fun c4 => ?_, fun c4 => ?_⟩)
          ·
            refine seg 2 (show R (some (vI m)) μ from ?_)
            have e0 := rl_out (G := G) (r := r) (i := i + m) (j := j + m) (fun z => by first | (have := z.1; omega) | exact absurd z.2.1 (by assumption) | exact absurd z.2.2.1 (by omega) | exact absurd z.2.2.2 (by assumption))
            have e1 : m = rl G r i j := by omega
            rw [e1]; exact hk
          ·
            refine seg 6 (show iR (i + m) ∧ Wp 20 0 [some (vR 13), some (vI r), some (vI (i + m))] [] μ (fun rr μ' => Wp 15 76 [some (vR 8), some (vR 13), some (vI r), some (vI i), some (vI j), some (vI (hP G r 0)), some (vI m)] (rr.toList ++ []) μ' R) from ⟨by omega, ?_⟩)
            refine p20v hI (by omega) (fun b5 => ?_) (fun b5 => ?_)
            ·
              refine seg 1 (show (¬ (1 = 0) → Wp 15 100 [some (vR 8), some (vR 13), some (vI r), some (vI i), some (vI j), some (vI (hP G r 0)), some (vI m)] [] μ R) ∧ (1 = 0 → Wp 15 79 [some (vR 8), some (vR 13), some (vI r), some (vI i), some (vI j), some (vI (hP G r 0)), some (vI m)] [] μ R) from ⟨fun _ => ?_, fun z => absurd z (by decide)⟩)
              refine seg 2 (show R (some (vI m)) μ from ?_)
              have e0 := rl_out (G := G) (r := r) (i := i + m) (j := j + m) (fun z => by first | (have := z.1; omega) | exact absurd z.2.1 (by assumption) | exact absurd z.2.2.1 (by omega) | exact absurd z.2.2.2 (by assumption))
              have e1 : m = rl G r i j := by omega
              rw [e1]; exact hk
            ·
              refine seg 1 (show (¬ (0 = 0) → Wp 15 100 [some (vR 8), some (vR 13), some (vI r), some (vI i), some (vI j), some (vI (hP G r 0)), some (vI m)] [] μ R) ∧ (0 = 0 → Wp 15 79 [some (vR 8), some (vR 13), some (vI r), some (vI i), some (vI j), some (vI (hP G r 0)), some (vI m)] [] μ R) from ⟨fun z => absurd z (by decide), fun _ => ?_⟩)
              refine seg 6 (show iR (j + m) ∧ Wp 19 0 [some (vR 13), some (vI r), some (vI (j + m))] [] μ (fun rr μ' => Wp 15 89 [some (vR 8), some (vR 13), some (vI r), some (vI i), some (vI j), some (vI (hP G r 0)), some (vI m)] (rr.toList ++ []) μ' R) from ⟨by omega, ?_⟩)
              refine p19v hI (by omega) ?_
              refine seg 2 (show (¬ (pr G r 0 (j + m) = -9) → Wp 15 100 [some (vR 8), some (vR 13), some (vI r), some (vI i), some (vI j), some (vI (hP G r 0)), some (vI m)] [] μ R) ∧ (pr G r 0 (j + m) = -9 → Wp 15 94 [some (vR 8), some (vR 13), some (vI r), some (vI i), some (vI j), some (vI (hP G r 0)), some (vI m)] [] μ R) from ⟨fun c6 => ?_, fun c6 => ?_⟩)
              ·
                refine seg 2 (show R (some (vI m)) μ from ?_)
                have e0 := rl_out (G := G) (r := r) (i := i + m) (j := j + m) (fun z => by first | (have := z.1; omega) | exact absurd z.2.1 (by assumption) | exact absurd z.2.2.1 (by omega) | exact absurd z.2.2.2 (by assumption))
                have e1 : m = rl G r i j := by omega
                rw [e1]; exact hk
              ·
                refine seg 2 (show iR (m + 1) ∧ Wp 15 11 [some (vR 8), some (vR 13), some (vI r), some (vI i), some (vI j), some (vI (hP G r 0)), some (vI (m + 1))] [] μ R from ⟨by omega, ?_⟩)
                exfalso; omega
  | succ n ih =>
    intro m hn h0 hm
    refine seg 3 (show (8 ≤ m → Wp 15 100 [some (vR 8), some (vR 13), some (vI r), some (vI i), some (vI j), some (vI (hP G r 0)), some (vI m)] [] μ R) ∧ (¬ (8 ≤ m) → Wp 15 18 [some (vR 8), some (vR 13), some (vI r), some (vI i), some (vI j), some (vI (hP G r 0)), some (vI m)] [] μ R) from ⟨fun c7 => ?_, fun c7 => ?_⟩)
    ·
      refine seg 2 (show R (some (vI m)) μ from ?_)
      have e0 := rl_out (G := G) (r := r) (i := i + m) (j := j + m) (fun z => by first | (have := z.1; omega) | exact absurd z.2.1 (by assumption) | exact absurd z.2.2.1 (by omega) | exact absurd z.2.2.2 (by assumption))
      have e1 : m = rl G r i j := by omega
      rw [e1]; exact hk
    ·
      refine seg 6 (show iR (i + m) ∧ Wp 46 0 [some (vR 8), some (vI (hP G r 0))] [] μ (fun rr μ' => Wp 15 28 [some (vR 8), some (vR 13), some (vI r), some (vI i), some (vI j), some (vI (hP G r 0)), some (vI m)] (rr.toList ++ [vI (i + m)]) μ' R) from ⟨by omega, ?_⟩)
      refine g46 hc (by omega) ?_
      refine seg 1 (show (hS G (hP G r 0) ≤ i + m → Wp 15 100 [some (vR 8), some (vR 13), some (vI r), some (vI i), some (vI j), some (vI (hP G r 0)), some (vI m)] [] μ R) ∧ (¬ (hS G (hP G r 0) ≤ i + m) → Wp 15 31 [some (vR 8), some (vR 13), some (vI r), some (vI i), some (vI j), some (vI (hP G r 0)), some (vI m)] [] μ R) from ⟨fun c8 => ?_, fun c8 => ?_⟩)
      ·
        refine seg 2 (show R (some (vI m)) μ from ?_)
        have e0 := rl_out (G := G) (r := r) (i := i + m) (j := j + m) (fun z => by first | (have := z.1; omega) | exact absurd z.2.1 (by assumption) | exact absurd z.2.2.1 (by omega) | exact absurd z.2.2.2 (by assumption))
        have e1 : m = rl G r i j := by omega
        rw [e1]; exact hk
      ·
        refine seg 6 (show iR (j + m) ∧ Wp 46 0 [some (vR 8), some (vI r)] [] μ (fun rr μ' => Wp 15 41 [some (vR 8), some (vR 13), some (vI r), some (vI i), some (vI j), some (vI (hP G r 0)), some (vI m)] (rr.toList ++ [vI (j + m)]) μ' R) from ⟨by omega, ?_⟩)
        refine g46 hc (by omega) ?_
        refine seg 1 (show (hS G r ≤ j + m → Wp 15 100 [some (vR 8), some (vR 13), some (vI r), some (vI i), some (vI j), some (vI (hP G r 0)), some (vI m)] [] μ R) ∧ (¬ (hS G r ≤ j + m) → Wp 15 44 [some (vR 8), some (vR 13), some (vI r), some (vI i), some (vI j), some (vI (hP G r 0)), some (vI m)] [] μ R) from ⟨fun c9 => ?_, fun c9 => ?_⟩)
        ·
          refine seg 2 (show R (some (vI m)) μ from ?_)
          have e0 := rl_out (G := G) (r := r) (i := i + m) (j := j + m) (fun z => by first | (have := z.1; omega) | exact absurd z.2.1 (by assumption) | exact absurd z.2.2.1 (by omega) | exact absurd z.2.2.2 (by assumption))
          have e1 : m = rl G r i j := by omega
          rw [e1]; exact hk
        ·
          refine seg 6 (show iR (i + m) ∧ Wp 48 0 [some (vR 8), some (vI (hP G r 0)), some (vI (i + m))] [] μ (fun rr μ' => Wp 15 54 [some (vR 8), some (vR 13), some (vI r), some (vI i), some (vI j), some (vI (hP G r 0)), some (vI m)] (rr.toList ++ []) μ' R) from ⟨by omega, ?_⟩)
          refine g48 hc (by omega) (by omega) ?_
          refine seg 6 (show iR (j + m) ∧ Wp 48 0 [some (vR 8), some (vI r), some (vI (j + m))] [] μ (fun rr μ' => Wp 15 64 [some (vR 8), some (vR 13), some (vI r), some (vI i), some (vI j), some (vI (hP G r 0)), some (vI m)] (rr.toList ++ [vI (hL G (hP G r 0) (i + m))]) μ' R) from ⟨by omega, ?_⟩)
          refine g48 hc (by omega) (by omega) ?_
          refine seg 1 (show (¬ (hL G (hP G r 0) (i + m) = hL G r (j + m)) → Wp 15 100 [some (vR 8), some (vR 13), some (vI r), some (vI i), some (vI j), some (vI (hP G r 0)), some (vI m)] [] μ R) ∧ (hL G (hP G r 0) (i + m) = hL G r (j + m) → Wp 15 67 [some (vR 8), some (vR 13), some (vI r), some (vI i), some (vI j), some (vI (hP G r 0)), some (vI m)] [] μ R) from ⟨fun c10 => ?_, fun c10 => ?_⟩)
          ·
            refine seg 2 (show R (some (vI m)) μ from ?_)
            have e0 := rl_out (G := G) (r := r) (i := i + m) (j := j + m) (fun z => by first | (have := z.1; omega) | exact absurd z.2.1 (by assumption) | exact absurd z.2.2.1 (by omega) | exact absurd z.2.2.2 (by assumption))
            have e1 : m = rl G r i j := by omega
            rw [e1]; exact hk
          ·
            refine seg 6 (show iR (i + m) ∧ Wp 20 0 [some (vR 13), some (vI r), some (vI (i + m))] [] μ (fun rr μ' => Wp 15 76 [some (vR 8), some (vR 13), some (vI r), some (vI i), some (vI j), some (vI (hP G r 0)), some (vI m)] (rr.toList ++ []) μ' R) from ⟨by omega, ?_⟩)
            refine p20v hI (by omega) (fun b11 => ?_) (fun b11 => ?_)
            ·
              refine seg 1 (show (¬ (1 = 0) → Wp 15 100 [some (vR 8), some (vR 13), some (vI r), some (vI i), some (vI j), some (vI (hP G r 0)), some (vI m)] [] μ R) ∧ (1 = 0 → Wp 15 79 [some (vR 8), some (vR 13), some (vI r), some (vI i), some (vI j), some (vI (hP G r 0)), some (vI m)] [] μ R) from ⟨fun _ => ?_, fun z => absurd z (by decide)⟩)
              refine seg 2 (show R (some (vI m)) μ from ?_)
              have e0 := rl_out (G := G) (r := r) (i := i + m) (j := j + m) (fun z => by first | (have := z.1; omega) | exact absurd z.2.1 (by assumption) | exact absurd z.2.2.1 (by omega) | exact absurd z.2.2.2 (by assumption))
              have e1 : m = rl G r i j := by omega
              rw [e1]; exact hk
            ·
              refine seg 1 (show (¬ (0 = 0) → Wp 15 100 [some (vR 8), some (vR 13), some (vI r), some (vI i), some (vI j), some (vI (hP G r 0)), some (vI m)] [] μ R) ∧ (0 = 0 → Wp 15 79 [some (vR 8), some (vR 13), some (vI r), some (vI i), some (vI j), some (vI (hP G r 0)), some (vI m)] [] μ R) from ⟨fun z => absurd z (by decide), fun _ => ?_⟩)
              refine seg 6 (show iR (j + m) ∧ Wp 19 0 [some (vR 13), some (vI r), some (vI (j + m))] [] μ (fun rr μ' => Wp 15 89 [some (vR 8), some (vR 13), some (vI r), some (vI i), some (vI j), some (vI (hP G r 0)), some (vI m)] (rr.toList ++ []) μ' R) from ⟨by omega, ?_⟩)
              refine p19v hI (by omega) ?_
              refine seg 2 (show (¬ (pr G r 0 (j + m) = -9) → Wp 15 100 [some (vR 8), some (vR 13), some (vI r), some (vI i), some (vI j), some (vI (hP G r 0)), some (vI m)] [] μ R) ∧ (pr G r 0 (j + m) = -9 → Wp 15 94 [some (vR 8), some (vR 13), some (vI r), some (vI i), some (vI j), some (vI (hP G r 0)), some (vI m)] [] μ R) from ⟨fun c12 => ?_, fun c12 => ?_⟩)
              ·
                refine seg 2 (show R (some (vI m)) μ from ?_)
                have e0 := rl_out (G := G) (r := r) (i := i + m) (j := j + m) (fun z => by first | (have := z.1; omega) | exact absurd z.2.1 (by assumption) | exact absurd z.2.2.1 (by omega) | exact absurd z.2.2.2 (by assumption))
                have e1 : m = rl G r i j := by omega
                rw [e1]; exact hk
              ·
                refine seg 2 (show iR (m + 1) ∧ Wp 15 11 [some (vR 8), some (vR 13), some (vI r), some (vI i), some (vI j), some (vI (hP G r 0)), some (vI (m + 1))] [] μ R from ⟨by omega, ?_⟩)
                have e0 := rl_in (G := G) (r := r) (i := i + m) (j := j + m) ⟨⟨by omega, by omega⟩, by assumption, by assumption, by assumption⟩
                rw [show i + m + 1 = i + (m + 1) by omega, show j + m + 1 = j + (m + 1) by omega] at e0
                exact ih (m + 1) (by omega) (by omega) (by omega)
theorem s15 {G : Hi} {r i j : Int} {R : Po} {μ : Mu} (hc : GC G μ) (hI : PrC13 G μ r) (hr : 0 ≤ r ∧ r < hN G) (hp : 0 ≤ hP G r 0 ∧ hP G r 0 < hN G) (hi : 0 ≤ i ∧ i ≤ 8) (hj : 0 ≤ j ∧ j ≤ 8) (hk : R (some (vI (rl G r i j))) μ) : Wp 15 0 [some (vR 8), some (vR 13), some (vI r), some (vI i), some (vI j), none, none] [] μ R := by
  have h2 := hc.1.n
  have hsp := hc.1.s hp
  have hsr := hc.1.s hr
  refine seg 4 (show Wp 47 0 [some (vR 8), some (vI r), some (vI 0)] [] μ (fun rr μ' => Wp 15 6 [some (vR 8), some (vR 13), some (vI r), some (vI i), some (vI j), none, none] (rr.toList ++ []) μ' R) from ?_)
  refine g47 hc (by omega) (by decide) ?_
  refine seg 3 (show Wp 15 11 [some (vR 8), some (vR 13), some (vI r), some (vI i), some (vI j), some (vI (hP G r 0)), some (vI 0)] [] μ R from ?_)
  exact l15 hc hI hr hp hi hj hk 9 0 (by decide) (by decide) (by rw [Int.add_zero, Int.add_zero, Int.zero_add])
theorem l16 {r i j L : Int} {R : Po} {μ0 : Mu} (hr : 0 ≤ r ∧ r < 8) (hi : 0 ≤ i ∧ i ≤ 8) (hj : 0 ≤ j ∧ j ≤ 8) (hL : 0 ≤ L ∧ (0 < L → j + L ≤ 8)) (hk : ∀ μ : Mu, ((∀ q, q ≠ 26 → q ≠ 27 → μ q = μ0 q) ∧ (∀ y, ¬ (r * 8 ≤ y ∧ y < r * 8 + 8) → μ 26 y = μ0 26 y ∧ μ 27 y = μ0 27 y)) → (∀ k, 0 ≤ k → k < 8 → MvC (μ 26) (μ 27) r k = stM k (MvC (μ0 26) (μ0 27) r k) i j L) → R none μ) : ∀ (n : Nat) (x : Int) (μ : Mu), L - x = n → 0 ≤ x → ((∀ q, q ≠ 26 → q ≠ 27 → μ q = μ0 q) ∧ (∀ y, ¬ (r * 8 ≤ y ∧ y < r * 8 + 8) → μ 26 y = μ0 26 y ∧ μ 27 y = μ0 27 y)) → (∀ k, 0 ≤ k → k < 8 → MvC (μ 26) (μ 27) r k = if k < j + x then stM k (MvC (μ0 26) (μ0 27) r k) i j L else MvC (μ0 26) (μ0 27) r k) → Wp 16 3 [some (vR 25), some (vI r), some (vI i), some (vI j), some (vI L), some (vI x)] [] μ R := by
  intro n
  induction n with
  | zero =>
    intro x μ hn h0 hF hS
    refine seg 3 (show (L ≤ x → Wp 16 73 [some (vR 25), some (vI r), some (vI i), some (vI j), some (vI L), some (vI x)] [] μ R) ∧ (¬ (L ≤ x) → Wp 16 10 [some (vR 25), some (vI r), some (vI i), some (vI j), some (vI L), some (vI x)] [] μ R) from ⟨fun c1 => ?_, fun c1 => ?_⟩)
    ·
      refine seg 1 (show R none μ from ?_)
      first
      | (exfalso; omega)
      | (refine hk μ hF (fun k h1 h2 => ?_)
         rw [hS k h1 h2]
         by_cases hq : k < j + x
         · rw [if_pos hq]
         · rw [if_neg hq, stM_out (by omega)])
    ·
      refine seg 7 (show iR (j + x) ∧ Wp 11 0 [some (vR 25), some (vI r), some (vI (j + x))] [] μ (fun rr μ' => Wp 16 21 [some (vR 25), some (vI r), some (vI i), some (vI j), some (vI L), some (vI x)] (rr.toList ++ [vI L]) μ' R) from ⟨by omega, ?_⟩)
      refine s11v_25 (by omega) ?_
      refine seg 1 (show (L ≤ μ 26 (r * 8 + (j + x)) → Wp 16 67 [some (vR 25), some (vI r), some (vI i), some (vI j), some (vI L), some (vI x)] [] μ R) ∧ (¬ (L ≤ μ 26 (r * 8 + (j + x))) → Wp 16 24 [some (vR 25), some (vI r), some (vI i), some (vI j), some (vI L), some (vI x)] [] μ R) from ⟨fun c2 => ?_, fun c2 => ?_⟩)
      ·
        refine seg 2 (show iR (x + 1) ∧ Wp 16 3 [some (vR 25), some (vI r), some (vI i), some (vI j), some (vI L), some (vI (x + 1))] [] μ R from ⟨by omega, ?_⟩)
        exfalso; omega
      ·
        refine seg 5 (show iR (j + x) ∧ Wp 115 0 [some (vI r), some (vI (j + x))] [] μ (fun rr μ' => Wp 16 32 [some (vR 25), some (vI r), some (vI i), some (vI j), some (vI L), some (vI x)] (rr.toList ++ []) μ' R) from ⟨by omega, ?_⟩)
        refine s115t (by omega) ?_
        refine seg 1 (show (1 = 0 → Wp 16 67 [some (vR 25), some (vI r), some (vI i), some (vI j), some (vI L), some (vI x)] [] μ R) ∧ (¬ (1 = 0) → Wp 16 35 [some (vR 25), some (vI r), some (vI i), some (vI j), some (vI L), some (vI x)] [] μ R) from ⟨fun z => absurd z (by decide), fun _ => ?_⟩)
        refine seg 7 (show iR (j + x) ∧ Wp 114 0 [some (vI r), some (vI (j + x))] [] μ (fun rr μ' => Wp 16 47 [some (vR 25), some (vI r), some (vI i), some (vI j), some (vI L), some (vI x)] (rr.toList ++ [vR 26]) μ' R) from ⟨by omega, ?_⟩)
        refine s114 (by omega) ?_
        refine seg 9 (show (0 ≤ (r * 8 + (j + x)) ∧ (r * 8 + (j + x)) < 64) ∧ iR (j + x) ∧ Wp 114 0 [some (vI r), some (vI (j + x))] [] (u2 μ 26 (r * 8 + (j + x)) L) (fun rr μ' => Wp 16 62 [some (vR 25), some (vI r), some (vI i), some (vI j), some (vI L), some (vI x)] (rr.toList ++ [vR 27]) μ' R) from ⟨by omega, by omega, ?_⟩)
        refine s114 (by omega) ?_
        refine seg 6 (show iR (i + x) ∧ (0 ≤ (r * 8 + (j + x)) ∧ (r * 8 + (j + x)) < 64) ∧ iR (x + 1) ∧ Wp 16 3 [some (vR 25), some (vI r), some (vI i), some (vI j), some (vI L), some (vI (x + 1))] [] (u2 (u2 μ 26 (r * 8 + (j + x)) L) 27 (r * 8 + (j + x)) (i + x)) R from ⟨by omega, by omega, by omega, ?_⟩)
        exfalso; omega
  | succ n ih =>
    intro x μ hn h0 hF hS
    refine seg 3 (show (L ≤ x → Wp 16 73 [some (vR 25), some (vI r), some (vI i), some (vI j), some (vI L), some (vI x)] [] μ R) ∧ (¬ (L ≤ x) → Wp 16 10 [some (vR 25), some (vI r), some (vI i), some (vI j), some (vI L), some (vI x)] [] μ R) from ⟨fun c3 => ?_, fun c3 => ?_⟩)
    ·
      refine seg 1 (show R none μ from ?_)
      first
      | (exfalso; omega)
      | (refine hk μ hF (fun k h1 h2 => ?_)
         rw [hS k h1 h2]
         by_cases hq : k < j + x
         · rw [if_pos hq]
         · rw [if_neg hq, stM_out (by omega)])
    ·
      refine seg 7 (show iR (j + x) ∧ Wp 11 0 [some (vR 25), some (vI r), some (vI (j + x))] [] μ (fun rr μ' => Wp 16 21 [some (vR 25), some (vI r), some (vI i), some (vI j), some (vI L), some (vI x)] (rr.toList ++ [vI L]) μ' R) from ⟨by omega, ?_⟩)
      refine s11v_25 (by omega) ?_
      refine seg 1 (show (L ≤ μ 26 (r * 8 + (j + x)) → Wp 16 67 [some (vR 25), some (vI r), some (vI i), some (vI j), some (vI L), some (vI x)] [] μ R) ∧ (¬ (L ≤ μ 26 (r * 8 + (j + x))) → Wp 16 24 [some (vR 25), some (vI r), some (vI i), some (vI j), some (vI L), some (vI x)] [] μ R) from ⟨fun c4 => ?_, fun c4 => ?_⟩)
      ·
        refine seg 2 (show iR (x + 1) ∧ Wp 16 3 [some (vR 25), some (vI r), some (vI i), some (vI j), some (vI L), some (vI (x + 1))] [] μ R from ⟨by omega, ?_⟩)
        refine ih (x + 1) _ (by omega) (by omega) hF (fun k h1 h2 => ?_)
        rw [hS k h1 h2]
        by_cases hq : k < j + x
        · rw [if_pos hq, if_pos (by omega)]
        · rw [if_neg hq]
          by_cases hq2 : k < j + (x + 1)
          · rw [if_pos hq2]
            obtain rfl : k = j + x := by omega
            have e := hS (j + x) h1 h2
            rw [if_neg hq] at e
            have e1 : μ 26 (r * 8 + (j + x)) = (MvC (μ0 26) (μ0 27) r (j + x)).1 := congrArg Prod.fst e
            unfold stM
            rw [if_neg (by omega)]
          · rw [if_neg hq2]
      ·
        refine seg 5 (show iR (j + x) ∧ Wp 115 0 [some (vI r), some (vI (j + x))] [] μ (fun rr μ' => Wp 16 32 [some (vR 25), some (vI r), some (vI i), some (vI j), some (vI L), some (vI x)] (rr.toList ++ []) μ' R) from ⟨by omega, ?_⟩)
        refine s115t (by omega) ?_
        refine seg 1 (show (1 = 0 → Wp 16 67 [some (vR 25), some (vI r), some (vI i), some (vI j), some (vI L), some (vI x)] [] μ R) ∧ (¬ (1 = 0) → Wp 16 35 [some (vR 25), some (vI r), some (vI i), some (vI j), some (vI L), some (vI x)] [] μ R) from ⟨fun z => absurd z (by decide), fun _ => ?_⟩)
        refine seg 7 (show iR (j + x) ∧ Wp 114 0 [some (vI r), some (vI (j + x))] [] μ (fun rr μ' => Wp 16 47 [some (vR 25), some (vI r), some (vI i), some (vI j), some (vI L), some (vI x)] (rr.toList ++ [vR 26]) μ' R) from ⟨by omega, ?_⟩)
        refine s114 (by omega) ?_
        refine seg 9 (show (0 ≤ (r * 8 + (j + x)) ∧ (r * 8 + (j + x)) < 64) ∧ iR (j + x) ∧ Wp 114 0 [some (vI r), some (vI (j + x))] [] (u2 μ 26 (r * 8 + (j + x)) L) (fun rr μ' => Wp 16 62 [some (vR 25), some (vI r), some (vI i), some (vI j), some (vI L), some (vI x)] (rr.toList ++ [vR 27]) μ' R) from ⟨by omega, by omega, ?_⟩)
        refine s114 (by omega) ?_
        refine seg 6 (show iR (i + x) ∧ (0 ≤ (r * 8 + (j + x)) ∧ (r * 8 + (j + x)) < 64) ∧ iR (x + 1) ∧ Wp 16 3 [some (vR 25), some (vI r), some (vI i), some (vI j), some (vI L), some (vI (x + 1))] [] (u2 (u2 μ 26 (r * 8 + (j + x)) L) 27 (r * 8 + (j + x)) (i + x)) R from ⟨by omega, by omega, by omega, ?_⟩)
        obtain ⟨μ1, hμ1⟩ : ∃ z, z = u2 (u2 μ 26 (r * 8 + (j + x)) L) 27 (r * 8 + (j + x)) (i + x) := ⟨_, rfl⟩
        rw [← hμ1]
        have e27 : μ1 27 = up1 (μ 27) (r * 8 + (j + x)) (i + x) := by rw [hμ1, u2_at, u2_ne (by decide)]
        have e26 : μ1 26 = up1 (μ 26) (r * 8 + (j + x)) L := by rw [hμ1, u2_ne (by decide), u2_at]
        refine ih (x + 1) _ (by omega) (by omega) ⟨fun q h1 h2 => by rw [hμ1, u2_ne h2, u2_ne h1]; exact hF.1 q h1 h2, fun y hy => by rw [e26, e27, up1_n (by omega), up1_n (by omega)]; exact hF.2 y hy⟩ (fun k h1 h2 => ?_)
        unfold MvC
        rw [e26, e27]
        by_cases hq : k = j + x
        · subst hq
          have e := hS (j + x) h1 h2
          rw [if_neg (by omega)] at e
          have e1 : μ 26 (r * 8 + (j + x)) = (MvC (μ0 26) (μ0 27) r (j + x)).1 := congrArg Prod.fst e
          rw [up1_s, up1_s, if_pos (by omega)]
          show _ = stM (j + x) (MvC (μ0 26) (μ0 27) r (j + x)) i j L
          unfold stM
          rw [if_pos (by omega)]
          exact congrArg (Prod.mk L) (by omega)
        · rw [up1_n (by omega), up1_n (by omega)]
          show MvC (μ 26) (μ 27) r k = if k < j + (x + 1) then stM k (MvC (μ0 26) (μ0 27) r k) i j L else MvC (μ0 26) (μ0 27) r k
          rw [hS k h1 h2]
          by_cases hq2 : k < j + x
          · rw [if_pos hq2, if_pos (by omega)]
          · rw [if_neg hq2, if_neg (by omega)]
theorem s16 {r i j L : Int} {R : Po} {μ : Mu} (hr : 0 ≤ r ∧ r < 8) (hi : 0 ≤ i ∧ i ≤ 8) (hj : 0 ≤ j ∧ j ≤ 8) (hL : 0 ≤ L ∧ (0 < L → j + L ≤ 8)) (hk : ∀ μ2 : Mu, ((∀ q, q ≠ 26 → q ≠ 27 → μ2 q = μ q) ∧ (∀ y, ¬ (r * 8 ≤ y ∧ y < r * 8 + 8) → μ2 26 y = μ 26 y ∧ μ2 27 y = μ 27 y)) → (∀ k, 0 ≤ k → k < 8 → MvC (μ2 26) (μ2 27) r k = stM k (MvC (μ 26) (μ 27) r k) i j L) → R none μ2) : Wp 16 0 [some (vR 25), some (vI r), some (vI i), some (vI j), some (vI L), none] [] μ R := by
  refine seg 2 (show Wp 16 3 [some (vR 25), some (vI r), some (vI i), some (vI j), some (vI L), some (vI 0)] [] μ R from ?_)
  exact l16 hr hi hj hL hk L.toNat 0 μ (by omega) (by decide) ⟨fun _ _ _ => rfl, fun _ _ => ⟨rfl, rfl⟩⟩ (fun k h1 h2 => by
    by_cases hq : k < j + 0
    · rw [if_pos hq, stM_out (by omega)]
    · rw [if_neg hq])
theorem l14a {G : Hi} {r : Int} {R : Po} {μ0 : Mu} (hc0 : GC G μ0) (hI0 : PrC13 G μ0 r) (hr : 0 ≤ r ∧ r < hN G) (hp : 0 ≤ hP G r 0 ∧ hP G r 0 < hN G) {i : Nat} (hi : (i : Int) < hS G (hP G r 0)) (hk : ∀ μ : Mu, ((∀ q, q ≠ 26 → q ≠ 27 → μ q = μ0 q) ∧ (∀ y, ¬ (r * 8 ≤ y ∧ y < r * 8 + 8) → μ 26 y = μ0 26 y ∧ μ 27 y = μ0 27 y)) → (∀ k, 0 ≤ k → k < 8 → MvC (μ 26) (μ 27) r k = allM G r k (hS G r).toNat (i + 1) (0, -9)) → Wp 14 60 [some (vR 25), some (vR 8), some (vR 13), some (vI r), some (vI (hP G r 0)), some (vI (i : Int)), some (vI (hS G r))] [] μ R) : ∀ (n : Nat) (j : Nat) (μ : Mu), hS G r - j = n → ((∀ q, q ≠ 26 → q ≠ 27 → μ q = μ0 q) ∧ (∀ y, ¬ (r * 8 ≤ y ∧ y < r * 8 + 8) → μ 26 y = μ0 26 y ∧ μ 27 y = μ0 27 y)) → (∀ k, 0 ≤ k → k < 8 → MvC (μ 26) (μ 27) r k = rowM G r k i j (allM G r k (hS G r).toNat i (0, -9))) → Wp 14 25 [some (vR 25), some (vR 8), some (vR 13), some (vI r), some (vI (hP G r 0)), some (vI (i : Int)), some (vI (j : Int))] [] μ R := by
  intro n
  induction n with
  | zero =>
    intro j μ hn hF hM
    have hc := hc0.fr (hF.1 8 (by decide) (by decide)) (hF.1 9 (by decide) (by decide)) (hF.1 10 (by decide) (by decide)) (hF.1 11 (by decide) (by decide))
    have hI : PrC13 G μ r := by
      unfold PrC13
      rw [hF.1 14 (by decide) (by decide), hF.1 15 (by decide) (by decide), hF.1 16 (by decide) (by decide), hF.1 17 (by decide) (by decide)]
      exact hI0
    have h2 := hc.1.n
    have hsp := hc.1.s hp
    have hsr := hc.1.s hr
    refine seg 4 (show Wp 46 0 [some (vR 8), some (vI r)] [] μ (fun rr μ' => Wp 14 32 [some (vR 25), some (vR 8), some (vR 13), some (vI r), some (vI (hP G r 0)), some (vI (i : Int)), some (vI (j : Int))] (rr.toList ++ [vI (j : Int)]) μ' R) from ?_)
    refine g46 hc (by omega) ?_
    refine seg 1 (show (hS G r ≤ (j : Int) → Wp 14 60 [some (vR 25), some (vR 8), some (vR 13), some (vI r), some (vI (hP G r 0)), some (vI (i : Int)), some (vI (j : Int))] [] μ R) ∧ (¬ (hS G r ≤ (j : Int)) → Wp 14 35 [some (vR 25), some (vR 8), some (vR 13), some (vI r), some (vI (hP G r 0)), some (vI (i : Int)), some (vI (j : Int))] [] μ R) from ⟨fun c1 => ?_, fun c1 => ?_⟩)
    ·
      first
      | (exfalso; omega)
      | (have ej : (j : Int) = hS G r := by omega
         rw [ej]
         refine hk μ hF (fun k h1 h2 => ?_)
         rw [hM k h1 h2]
         show _ = rowM G r k i (hS G r).toNat (allM G r k (hS G r).toNat i (0, -9))
         rw [← ej, Int.toNat_natCast])
    ·
      refine seg 10 (show Wp 15 0 [some (vR 8), some (vR 13), some (vI r), some (vI (i : Int)), some (vI (j : Int)), none, none] [] μ (fun rr μ' => Wp 14 51 [some (vR 25), some (vR 8), some (vR 13), some (vI r), some (vI (hP G r 0)), some (vI (i : Int)), some (vI (j : Int))] (rr.toList ++ [vI (j : Int), vI (i : Int), vI r, vR 25]) μ' R) from ?_)
      exfalso; omega
  | succ n ih =>
    intro j μ hn hF hM
    have hc := hc0.fr (hF.1 8 (by decide) (by decide)) (hF.1 9 (by decide) (by decide)) (hF.1 10 (by decide) (by decide)) (hF.1 11 (by decide) (by decide))
    have hI : PrC13 G μ r := by
      unfold PrC13
      rw [hF.1 14 (by decide) (by decide), hF.1 15 (by decide) (by decide), hF.1 16 (by decide) (by decide), hF.1 17 (by decide) (by decide)]
      exact hI0
    have h2 := hc.1.n
    have hsp := hc.1.s hp
    have hsr := hc.1.s hr
    refine seg 4 (show Wp 46 0 [some (vR 8), some (vI r)] [] μ (fun rr μ' => Wp 14 32 [some (vR 25), some (vR 8), some (vR 13), some (vI r), some (vI (hP G r 0)), some (vI (i : Int)), some (vI (j : Int))] (rr.toList ++ [vI (j : Int)]) μ' R) from ?_)
    refine g46 hc (by omega) ?_
    refine seg 1 (show (hS G r ≤ (j : Int) → Wp 14 60 [some (vR 25), some (vR 8), some (vR 13), some (vI r), some (vI (hP G r 0)), some (vI (i : Int)), some (vI (j : Int))] [] μ R) ∧ (¬ (hS G r ≤ (j : Int)) → Wp 14 35 [some (vR 25), some (vR 8), some (vR 13), some (vI r), some (vI (hP G r 0)), some (vI (i : Int)), some (vI (j : Int))] [] μ R) from ⟨fun c2 => ?_, fun c2 => ?_⟩)
    ·
      first
      | (exfalso; omega)
      | (have ej : (j : Int) = hS G r := by omega
         rw [ej]
         refine hk μ hF (fun k h1 h2 => ?_)
         rw [hM k h1 h2]
         show _ = rowM G r k i (hS G r).toNat (allM G r k (hS G r).toNat i (0, -9))
         rw [← ej, Int.toNat_natCast])
    ·
      refine seg 10 (show Wp 15 0 [some (vR 8), some (vR 13), some (vI r), some (vI (i : Int)), some (vI (j : Int)), none, none] [] μ (fun rr μ' => Wp 14 51 [some (vR 25), some (vR 8), some (vR 13), some (vI r), some (vI (hP G r 0)), some (vI (i : Int)), some (vI (j : Int))] (rr.toList ++ [vI (j : Int), vI (i : Int), vI r, vR 25]) μ' R) from ?_)
      refine s15 hc hI hr hp (by omega) (by omega) ?_
      have hl := rl_rg (G := G) (r := r) _ (i : Int) (j : Int) (Nat.le_refl _)
      refine seg 1 (show Wp 16 0 [some (vR 25), some (vI r), some (vI (i : Int)), some (vI (j : Int)), some (vI (rl G r (i : Int) (j : Int))), none] [] μ (fun rr μ' => Wp 14 54 [some (vR 25), some (vR 8), some (vR 13), some (vI r), some (vI (hP G r 0)), some (vI (i : Int)), some (vI (j : Int))] (rr.toList ++ []) μ' R) from ?_)
      refine s16 (by omega) (by omega) (by omega) ⟨by omega, fun z => by have := hl.2.2 z; omega⟩ (fun μ1 f1 f2 => ?_)
      refine seg 2 (show iR ((j : Int) + 1) ∧ Wp 14 25 [some (vR 25), some (vR 8), some (vR 13), some (vI r), some (vI (hP G r 0)), some (vI (i : Int)), some (vI ((j : Int) + 1))] [] μ1 R from ⟨by omega, ?_⟩)
      refine ih (j + 1) μ1 (by omega) ⟨fun q h1 h2 => by rw [f1.1 q h1 h2]; exact hF.1 q h1 h2, fun y hy => by rw [(f1.2 y hy).1, (f1.2 y hy).2]; exact hF.2 y hy⟩ (fun k h1 h2 => ?_)
      rw [f2 k h1 h2, hM k h1 h2]
      rfl
theorem l14b {G : Hi} {r : Int} {R : Po} {μ0 : Mu} (hc0 : GC G μ0) (hI0 : PrC13 G μ0 r) (hr : 0 ≤ r ∧ r < hN G) (hp : 0 ≤ hP G r 0 ∧ hP G r 0 < hN G) (hk : ∀ μ : Mu, ((∀ q, q ≠ 26 → q ≠ 27 → μ q = μ0 q) ∧ (∀ y, ¬ (r * 8 ≤ y ∧ y < r * 8 + 8) → μ 26 y = μ0 26 y ∧ μ 27 y = μ0 27 y)) → (∀ k, 0 ≤ k → k < 8 → MvC (μ 26) (μ 27) r k = mv G r k) → R none μ) : ∀ (n : Nat) (i : Nat) (μ : Mu) (o6 : Option PV), hS G (hP G r 0) - i = n → ((∀ q, q ≠ 26 → q ≠ 27 → μ q = μ0 q) ∧ (∀ y, ¬ (r * 8 ≤ y ∧ y < r * 8 + 8) → μ 26 y = μ0 26 y ∧ μ 27 y = μ0 27 y)) → (∀ k, 0 ≤ k → k < 8 → MvC (μ 26) (μ 27) r k = allM G r k (hS G r).toNat i (0, -9)) → Wp 14 11 [some (vR 25), some (vR 8), some (vR 13), some (vI r), some (vI (hP G r 0)), some (vI (i : Int)), o6] [] μ R := by
  intro n
  induction n with
  | zero =>
    intro i μ o6 hn hF hM
    have hc := hc0.fr (hF.1 8 (by decide) (by decide)) (hF.1 9 (by decide) (by decide)) (hF.1 10 (by decide) (by decide)) (hF.1 11 (by decide) (by decide))
    have hI : PrC13 G μ r := by
      unfold PrC13
      rw [hF.1 14 (by decide) (by decide), hF.1 15 (by decide) (by decide), hF.1 16 (by decide) (by decide), hF.1 17 (by decide) (by decide)]
      exact hI0
    have h2 := hc.1.n
    have hsp := hc.1.s hp
    have hsr := hc.1.s hr
    refine seg 4 (show Wp 46 0 [some (vR 8), some (vI (hP G r 0))] [] μ (fun rr μ' => Wp 14 19 [some (vR 25), some (vR 8), some (vR 13), some (vI r), some (vI (hP G r 0)), some (vI (i : Int)), o6] (rr.toList ++ [vI (i : Int)]) μ' R) from ?_)
    refine g46 hc (by omega) ?_
    refine seg 1 (show (hS G (hP G r 0) ≤ (i : Int) → Wp 14 66 [some (vR 25), some (vR 8), some (vR 13), some (vI r), some (vI (hP G r 0)), some (vI (i : Int)), o6] [] μ R) ∧ (¬ (hS G (hP G r 0) ≤ (i : Int)) → Wp 14 22 [some (vR 25), some (vR 8), some (vR 13), some (vI r), some (vI (hP G r 0)), some (vI (i : Int)), o6] [] μ R) from ⟨fun c1 => ?_, fun c1 => ?_⟩)
    ·
      refine seg 1 (show R none μ from ?_)
      first
      | (exfalso; omega)
      | (refine hk μ hF (fun k h1 h2 => ?_)
         rw [hM k h1 h2]
         unfold mv
         rw [if_neg (by omega), show (hS G (hP G r 0)).toNat = i by omega])
    ·
      refine seg 2 (show Wp 14 25 [some (vR 25), some (vR 8), some (vR 13), some (vI r), some (vI (hP G r 0)), some (vI (i : Int)), some (vI 0)] [] μ R from ?_)
      exfalso; omega
  | succ n ih =>
    intro i μ o6 hn hF hM
    have hc := hc0.fr (hF.1 8 (by decide) (by decide)) (hF.1 9 (by decide) (by decide)) (hF.1 10 (by decide) (by decide)) (hF.1 11 (by decide) (by decide))
    have hI : PrC13 G μ r := by
      unfold PrC13
      rw [hF.1 14 (by decide) (by decide), hF.1 15 (by decide) (by decide), hF.1 16 (by decide) (by decide), hF.1 17 (by decide) (by decide)]
      exact hI0
    have h2 := hc.1.n
    have hsp := hc.1.s hp
    have hsr := hc.1.s hr
    refine seg 4 (show Wp 46 0 [some (vR 8), some (vI (hP G r 0))] [] μ (fun rr μ' => Wp 14 19 [some (vR 25), some (vR 8), some (vR 13), some (vI r), some (vI (hP G r 0)), some (vI (i : Int)), o6] (rr.toList ++ [vI (i : Int)]) μ' R) from ?_)
    refine g46 hc (by omega) ?_
    refine seg 1 (show (hS G (hP G r 0) ≤ (i : Int) → Wp 14 66 [some (vR 25), some (vR 8), some (vR 13), some (vI r), some (vI (hP G r 0)), some (vI (i : Int)), o6] [] μ R) ∧ (¬ (hS G (hP G r 0) ≤ (i : Int)) → Wp 14 22 [some (vR 25), some (vR 8), some (vR 13), some (vI r), some (vI (hP G r 0)), some (vI (i : Int)), o6] [] μ R) from ⟨fun c2 => ?_, fun c2 => ?_⟩)
    ·
      refine seg 1 (show R none μ from ?_)
      first
      | (exfalso; omega)
      | (refine hk μ hF (fun k h1 h2 => ?_)
         rw [hM k h1 h2]
         unfold mv
         rw [if_neg (by omega), show (hS G (hP G r 0)).toNat = i by omega])
    ·
      refine seg 2 (show Wp 14 25 [some (vR 25), some (vR 8), some (vR 13), some (vI r), some (vI (hP G r 0)), some (vI (i : Int)), some (vI 0)] [] μ R from ?_)
      refine l14a hc0 hI0 hr hp (i := i) (by omega) (fun μ hF hM => ?_) (hS G r).toNat 0 μ (by omega) hF hM
      refine seg 2 (show iR ((i : Int) + 1) ∧ Wp 14 11 [some (vR 25), some (vR 8), some (vR 13), some (vI r), some (vI (hP G r 0)), some (vI ((i : Int) + 1)), some (vI (hS G r))] [] μ R from ⟨by omega, ?_⟩)
      exact ih (i + 1) μ _ (by omega) hF hM
theorem s14 {G : Hi} {r : Int} {R : Po} {μ : Mu} (hc : GC G μ) (hI : PrC13 G μ r) (hr : 0 ≤ r ∧ r < hN G) (hp : 0 ≤ hP G r 0 ∧ hP G r 0 < hN G) (h0 : ∀ k, 0 ≤ k → k < 8 → MvC (μ 26) (μ 27) r k = (0, -9)) (hk : ∀ μ2 : Mu, ((∀ q, q ≠ 26 → q ≠ 27 → μ2 q = μ q) ∧ (∀ y, ¬ (r * 8 ≤ y ∧ y < r * 8 + 8) → μ2 26 y = μ 26 y ∧ μ2 27 y = μ 27 y)) → (∀ k, 0 ≤ k → k < 8 → MvC (μ2 26) (μ2 27) r k = mv G r k) → R none μ2) : Wp 14 0 [some (vR 25), some (vR 8), some (vR 13), some (vI r), none, none, none] [] μ R := by
  have h2 := hc.1.n
  have hsp := hc.1.s hp
  have hsr := hc.1.s hr
  refine seg 4 (show Wp 47 0 [some (vR 8), some (vI r), some (vI 0)] [] μ (fun rr μ' => Wp 14 6 [some (vR 25), some (vR 8), some (vR 13), some (vI r), none, none, none] (rr.toList ++ []) μ' R) from ?_)
  refine g47 hc (by omega) (by decide) ?_
  refine seg 3 (show Wp 14 11 [some (vR 25), some (vR 8), some (vR 13), some (vI r), some (vI (hP G r 0)), some (vI 0), none] [] μ R from ?_)
  exact l14b hc hI hr hp hk (hS G (hP G r 0)).toNat 0 μ none (by omega) ⟨fun _ _ _ => rfl, fun _ _ => ⟨rfl, rfl⟩⟩ h0
theorem s14n {G : Hi} {r : Int} {R : Po} {μ : Mu} (hc : GC G μ) (hpar : ∀ {R : Po}, R (some (vI (-9))) μ → Wp 47 0 [some (vR 8), some (vI r), some (vI 0)] [] μ R) (hk : R none μ) : Wp 14 0 [some (vR 25), some (vR 8), some (vR 13), some (vI r), none, none, none] [] μ R := by
  refine seg 4 (show Wp 47 0 [some (vR 8), some (vI r), some (vI 0)] [] μ (fun rr μ' => Wp 14 6 [some (vR 25), some (vR 8), some (vR 13), some (vI r), none, none, none] (rr.toList ++ []) μ' R) from ?_)
  refine hpar ?_
  refine seg 7 (show Wp 46 0 [some (vR 8), some (vI (-9))] [] μ (fun rr μ' => Wp 14 19 [some (vR 25), some (vR 8), some (vR 13), some (vI r), some (vI (-9)), some (vI 0), none] (rr.toList ++ [vI 0]) μ' R) from ?_)
  refine g46n hc (by decide) ?_
  refine seg 1 (show (0 ≤ 0 → Wp 14 66 [some (vR 25), some (vR 8), some (vR 13), some (vI r), some (vI (-9)), some (vI 0), none] [] μ R) ∧ (¬ (0 ≤ 0) → Wp 14 22 [some (vR 25), some (vR 8), some (vR 13), some (vI r), some (vI (-9)), some (vI 0), none] [] μ R) from ⟨fun _ => ?_, fun z => absurd z (by decide)⟩)
  refine seg 1 (show R none μ from ?_)
  exact hk
theorem l13a {r : Int} {R : Po} {μ0 : Mu} (hr : 0 ≤ r ∧ r < 8) (hk : ∀ μ : Mu, ((∀ q, q ≠ 26 → q ≠ 27 → μ q = μ0 q) ∧ (∀ y, ¬ (r * 8 ≤ y ∧ y < r * 8 + 8) → μ 26 y = μ0 26 y ∧ μ 27 y = μ0 27 y)) → (∀ x, r * 8 ≤ x → x < r * 8 + 8 → μ 26 x = 0 ∧ μ 27 x = -9) → Wp 13 49 [some (vR 25), some (vR 8), some (vR 13), some (vI r), some (vI 8)] [] μ R) : ∀ (n : Nat) (k : Int) (μ : Mu), 8 - k = n → 0 ≤ k → ((∀ q, q ≠ 26 → q ≠ 27 → μ q = μ0 q) ∧ (∀ y, ¬ (r * 8 ≤ y ∧ y < r * 8 + 8) → μ 26 y = μ0 26 y ∧ μ 27 y = μ0 27 y)) → (∀ x, r * 8 ≤ x → x < r * 8 + k → μ 26 x = 0 ∧ μ 27 x = -9) → Wp 13 11 [some (vR 25), some (vR 8), some (vR 13), some (vI r), some (vI k)] [] μ R := by
  intro n
  induction n with
  | zero =>
    intro k μ hn h0 hF hA
    refine seg 3 (show (8 ≤ k → Wp 13 49 [some (vR 25), some (vR 8), some (vR 13), some (vI r), some (vI k)] [] μ R) ∧ (¬ (8 ≤ k) → Wp 13 18 [some (vR 25), some (vR 8), some (vR 13), some (vI r), some (vI k)] [] μ R) from ⟨fun c1 => ?_, fun c1 => ?_⟩)
    ·
      first | (obtain rfl : k = 8 := (by omega); exact hk μ hF hA) | (exfalso; omega)
    ·
      refine seg 5 (show Wp 114 0 [some (vI r), some (vI k)] [] μ (fun rr μ' => Wp 13 28 [some (vR 25), some (vR 8), some (vR 13), some (vI r), some (vI k)] (rr.toList ++ [vR 26]) μ' R) from ?_)
      refine s114 (by omega) ?_
      refine seg 7 (show (0 ≤ (r * 8 + k) ∧ (r * 8 + k) < 64) ∧ Wp 114 0 [some (vI r), some (vI k)] [] (u2 μ 26 (r * 8 + k) 0) (fun rr μ' => Wp 13 40 [some (vR 25), some (vR 8), some (vR 13), some (vI r), some (vI k)] (rr.toList ++ [vR 27]) μ' R) from ⟨by omega, ?_⟩)
      refine s114 (by omega) ?_
      refine seg 4 (show (0 ≤ (r * 8 + k) ∧ (r * 8 + k) < 64) ∧ iR (k + 1) ∧ Wp 13 11 [some (vR 25), some (vR 8), some (vR 13), some (vI r), some (vI (k + 1))] [] (u2 (u2 μ 26 (r * 8 + k) 0) 27 (r * 8 + k) (-9)) R from ⟨by omega, by omega, ?_⟩)
      exfalso; omega
  | succ n ih =>
    intro k μ hn h0 hF hA
    refine seg 3 (show (8 ≤ k → Wp 13 49 [some (vR 25), some (vR 8), some (vR 13), some (vI r), some (vI k)] [] μ R) ∧ (¬ (8 ≤ k) → Wp 13 18 [some (vR 25), some (vR 8), some (vR 13), some (vI r), some (vI k)] [] μ R) from ⟨fun c2 => ?_, fun c2 => ?_⟩)
    ·
      first | (obtain rfl : k = 8 := (by omega); exact hk μ hF hA) | (exfalso; omega)
    ·
      refine seg 5 (show Wp 114 0 [some (vI r), some (vI k)] [] μ (fun rr μ' => Wp 13 28 [some (vR 25), some (vR 8), some (vR 13), some (vI r), some (vI k)] (rr.toList ++ [vR 26]) μ' R) from ?_)
      refine s114 (by omega) ?_
      refine seg 7 (show (0 ≤ (r * 8 + k) ∧ (r * 8 + k) < 64) ∧ Wp 114 0 [some (vI r), some (vI k)] [] (u2 μ 26 (r * 8 + k) 0) (fun rr μ' => Wp 13 40 [some (vR 25), some (vR 8), some (vR 13), some (vI r), some (vI k)] (rr.toList ++ [vR 27]) μ' R) from ⟨by omega, ?_⟩)
      refine s114 (by omega) ?_
      refine seg 4 (show (0 ≤ (r * 8 + k) ∧ (r * 8 + k) < 64) ∧ iR (k + 1) ∧ Wp 13 11 [some (vR 25), some (vR 8), some (vR 13), some (vI r), some (vI (k + 1))] [] (u2 (u2 μ 26 (r * 8 + k) 0) 27 (r * 8 + k) (-9)) R from ⟨by omega, by omega, ?_⟩)
      refine ih (k + 1) _ (by omega) (by omega) ⟨fun q h1 h2 => by rw [u2_ne h2, u2_ne h1]; exact hF.1 q h1 h2, fun y hy => by rw [u2_ne (by decide), u2_at, u2_at, u2_ne (by decide), up1_n (by omega), up1_n (by omega)]; exact hF.2 y hy⟩ (fun x h1 h2 => ?_)
      rw [u2_ne (by decide), u2_at, u2_at, u2_ne (by decide)]
      by_cases hx : x = r * 8 + k
      · subst hx; rw [up1_s, up1_s]; exact ⟨rfl, rfl⟩
      · rw [up1_n hx, up1_n hx]; exact hA x h1 (by omega)
theorem l13 {G : Hi} {R : Po} {μ0 : Mu} (hc0 : GC G μ0) (hI0 : ∀ x, 0 ≤ x → x < hN G → PrC13 G μ0 x) (hk : ∀ μ : Mu, (∀ q, q ≠ 26 → q ≠ 27 → μ q = μ0 q) → (∀ x k, 0 ≤ x → x < hN G → 0 ≤ k → k < 8 → MvC (μ 26) (μ 27) x k = mv G x k) → R none μ) : ∀ (n : Nat) (r : Int) (μ : Mu) (o4 : Option PV), 8 - r = n → 0 ≤ r → (∀ q, q ≠ 26 → q ≠ 27 → μ q = μ0 q) → (∀ x k, 0 ≤ x → x < r → x < hN G → 0 ≤ k → k < 8 → MvC (μ 26) (μ 27) x k = mv G x k) → Wp 13 2 [some (vR 25), some (vR 8), some (vR 13), some (vI r), o4] [] μ R := by
  have h2 := hc0.1.n
  intro n
  induction n with
  | zero =>
    intro r μ o4 hn h0 hF hM
    refine seg 3 (show (8 ≤ r → Wp 13 62 [some (vR 25), some (vR 8), some (vR 13), some (vI r), o4] [] μ R) ∧ (¬ (8 ≤ r) → Wp 13 8 [some (vR 25), some (vR 8), some (vR 13), some (vI r), o4] [] μ R) from ⟨fun c1 => ?_, fun c1 => ?_⟩)
    ·
      refine seg 1 (show R none μ from ?_)
      first | (exfalso; omega) | exact hk μ hF (fun x k h1 h2 h3 h4 => hM x k h1 (by omega) h2 h3 h4)
    ·
      refine seg 2 (show Wp 13 11 [some (vR 25), some (vR 8), some (vR 13), some (vI r), some (vI 0)] [] μ R from ?_)
      exfalso; omega
  | succ n ih =>
    intro r μ o4 hn h0 hF hM
    refine seg 3 (show (8 ≤ r → Wp 13 62 [some (vR 25), some (vR 8), some (vR 13), some (vI r), o4] [] μ R) ∧ (¬ (8 ≤ r) → Wp 13 8 [some (vR 25), some (vR 8), some (vR 13), some (vI r), o4] [] μ R) from ⟨fun c2 => ?_, fun c2 => ?_⟩)
    ·
      refine seg 1 (show R none μ from ?_)
      first | (exfalso; omega) | exact hk μ hF (fun x k h1 h2 h3 h4 => hM x k h1 (by omega) h2 h3 h4)
    ·
      refine seg 2 (show Wp 13 11 [some (vR 25), some (vR 8), some (vR 13), some (vI r), some (vI 0)] [] μ R from ?_)
      refine l13a (by omega) (fun μ1 f1 f2 => ?_) 8 0 μ (by decide) (by decide) ⟨fun _ _ _ => rfl, fun _ _ => ⟨rfl, rfl⟩⟩ (fun x h1 h2 => absurd h2 (by omega))
      have hc1 : GC G μ1 := hc0.fr (by rw [f1.1 8 (by decide) (by decide)]; exact hF 8 (by decide) (by decide)) (by rw [f1.1 9 (by decide) (by decide)]; exact hF 9 (by decide) (by decide)) (by rw [f1.1 10 (by decide) (by decide)]; exact hF 10 (by decide) (by decide)) (by rw [f1.1 11 (by decide) (by decide)]; exact hF 11 (by decide) (by decide))
      have hz : ∀ k, 0 ≤ k → k < 8 → MvC (μ1 26) (μ1 27) r k = (0, -9) := fun k h1 h2 => by unfold MvC; rw [(f2 _ (by omega) (by omega)).1, (f2 _ (by omega) (by omega)).2]
      have fin : ∀ μ2 : Mu, ((∀ q, q ≠ 26 → q ≠ 27 → μ2 q = μ1 q) ∧ (∀ y, ¬ (r * 8 ≤ y ∧ y < r * 8 + 8) → μ2 26 y = μ1 26 y ∧ μ2 27 y = μ1 27 y)) → (r < hN G → ∀ k, 0 ≤ k → k < 8 → MvC (μ2 26) (μ2 27) r k = mv G r k) → Wp 13 56 [some (vR 25), some (vR 8), some (vR 13), some (vI r), some (vI 8)] [] μ2 R := by
        intro μ2 f3 f4
        refine seg 2 (show iR (r + 1) ∧ Wp 13 2 [some (vR 25), some (vR 8), some (vR 13), some (vI (r + 1)), some (vI 8)] [] μ2 R from ⟨by omega, ?_⟩)
        refine ih (r + 1) μ2 _ (by omega) (by omega) (fun q h1 h2 => by rw [f3.1 q h1 h2, f1.1 q h1 h2]; exact hF q h1 h2) (fun x k h1 h2 h3 h4 h5 => ?_)
        by_cases hx : x = r
        · subst hx; exact f4 h3 k h4 h5
        · have e := hM x k h1 (by omega) h3 h4 h5
          unfold MvC at e ⊢
          rw [(f3.2 _ (by omega)).1, (f3.2 _ (by omega)).2, (f1.2 _ (by omega)).1, (f1.2 _ (by omega)).2]
          exact e
      refine seg 5 (show Wp 14 0 [some (vR 25), some (vR 8), some (vR 13), some (vI r), none, none, none] [] μ1 (fun rr μ' => Wp 13 56 [some (vR 25), some (vR 8), some (vR 13), some (vI r), some (vI 8)] (rr.toList ++ []) μ' R) from ?_)
      by_cases hrn : r < hN G
      · by_cases hpn : hP G r 0 = -9
        · refine s14n (r := r) hc1 (fun h => g47 hc1 (by omega) (by decide) (by rw [hpn]; exact h)) ?_
          exact fin μ1 ⟨fun _ _ _ => rfl, fun _ _ => ⟨rfl, rfl⟩⟩ (fun _ k h1 h2 => by rw [hz k h1 h2]; unfold mv; rw [if_pos (by omega)])
        · have hpv := hc1.1.pv (r := r) (w := 0) (by omega) (by decide) hpn
          have hI1 : PrC13 G μ1 r := by
            unfold PrC13
            rw [f1.1 14 (by decide) (by decide), f1.1 15 (by decide) (by decide), f1.1 16 (by decide) (by decide), f1.1 17 (by decide) (by decide), hF 14 (by decide) (by decide), hF 15 (by decide) (by decide), hF 16 (by decide) (by decide), hF 17 (by decide) (by decide)]
            exact hI0 r h0 hrn
          refine s14 hc1 hI1 (by omega) (by omega) hz (fun μ2 f3 f4 => ?_)
          exact fin μ2 f3 (fun _ => f4)
      · refine s14n (r := r) hc1 (fun h => g47n hc1 (by omega) h) ?_
        exact fin μ1 ⟨fun _ _ _ => rfl, fun _ _ => ⟨rfl, rfl⟩⟩ (fun z => absurd z hrn)
theorem s13 {G : Hi} {R : Po} {μ : Mu} (hc : GC G μ) (hI : ∀ x, 0 ≤ x → x < hN G → PrC13 G μ x) (hk : ∀ μ2 : Mu, (∀ q, q ≠ 26 → q ≠ 27 → μ2 q = μ q) → (∀ x k, 0 ≤ x → x < hN G → 0 ≤ k → k < 8 → MvC (μ2 26) (μ2 27) x k = mv G x k) → R none μ2) : Wp 13 0 [some (vR 25), some (vR 8), some (vR 13), none, none] [] μ R := by
  refine seg 2 (show Wp 13 2 [some (vR 25), some (vR 8), some (vR 13), some (vI 0), none] [] μ R from ?_)
  exact l13 hc hI hk 8 0 μ none (by decide) (by decide) (fun _ _ _ => rfl) (fun x k h1 h2 => absurd h2 (by omega))
end
section
/-! PASSED in the class: what lies between pairs -/
theorem l9 {G : Hi} {r a b : Int} {R : Po} {μ : Mu} (hc : GC G μ) (hI : PrC13 G μ r) (hr : 0 ≤ r ∧ r < hN G) (hp : 0 ≤ hP G r 0 ∧ hP G r 0 < hN G) (ha : 0 ≤ a) (hb : b < hS G (hP G r 0)) (hy : (b < hS G (hP G r 0) ∧ ∀ i, a ≤ i → i ≤ b → ip G r i = 0) → R (some (vI 1)) μ) (hn : ¬ (b < hS G (hP G r 0) ∧ ∀ i, a ≤ i → i ≤ b → ip G r i = 0) → R (some (vI 0)) μ) : ∀ (n : Nat) (i : Int), (b + 1 - i).toNat = n → a ≤ i → (∀ x, a ≤ x → x < i → ip G r x = 0) → Wp 9 20 [some (vR 8), some (vR 13), some (vI r), some (vI a), some (vI b), some (vI i)] [] μ R := by
  have h2 := hc.1.n
  have hsp := hc.1.s hp
  have hsr := hc.1.s hr
  intro n
  induction n with
  | zero =>
    intro i hm h0 hA
    refine seg 3 (show (b < i → Wp 9 45 [some (vR 8), some (vR 13), some (vI r), some (vI a), some (vI b), some (vI i)] [] μ R) ∧ (¬ (b < i) → Wp 9 27 [some (vR 8), some (vR 13), some (vI r), some (vI a), some (vI b), some (vI i)] [] μ R) from ⟨fun c1 => ?_, fun c1 => ?_⟩)
    ·
      refine seg 2 (show (1 = 0 ∨ 1 = 1) ∧ R (some (vI 1)) μ from ⟨by decide, ?_⟩)
      first | (exfalso; omega) | exact hy ⟨hb, fun x h1 h2 => hA x h1 (by omega)⟩ | exact hn (fun z => by have := z.2 i h0 (by omega); omega)
    ·
      refine seg 4 (show Wp 20 0 [some (vR 13), some (vI r), some (vI i)] [] μ (fun rr μ' => Wp 9 34 [some (vR 8), some (vR 13), some (vI r), some (vI a), some (vI b), some (vI i)] (rr.toList ++ []) μ' R) from ?_)
      refine p20v hI (by omega) (fun b2 => ?_) (fun b2 => ?_)
      ·
        refine seg 1 (show (1 = 0 → Wp 9 39 [some (vR 8), some (vR 13), some (vI r), some (vI a), some (vI b), some (vI i)] [] μ R) ∧ (¬ (1 = 0) → Wp 9 37 [some (vR 8), some (vR 13), some (vI r), some (vI a), some (vI b), some (vI i)] [] μ R) from ⟨fun z => absurd z (by decide), fun _ => ?_⟩)
        refine seg 2 (show (0 = 0 ∨ 0 = 1) ∧ R (some (vI 0)) μ from ⟨by decide, ?_⟩)
        first | (exfalso; omega) | exact hy ⟨hb, fun x h1 h2 => hA x h1 (by omega)⟩ | exact hn (fun z => by have := z.2 i h0 (by omega); omega)
      ·
        refine seg 1 (show (0 = 0 → Wp 9 39 [some (vR 8), some (vR 13), some (vI r), some (vI a), some (vI b), some (vI i)] [] μ R) ∧ (¬ (0 = 0) → Wp 9 37 [some (vR 8), some (vR 13), some (vI r), some (vI a), some (vI b), some (vI i)] [] μ R) from ⟨fun _ => ?_, fun z => absurd z (by decide)⟩)
        refine seg 2 (show iR (i + 1) ∧ Wp 9 20 [some (vR 8), some (vR 13), some (vI r), some (vI a), some (vI b), some (vI (i + 1))] [] μ R from ⟨by omega, ?_⟩)
        exfalso; omega
  | succ n ih =>
    intro i hm h0 hA
    refine seg 3 (show (b < i → Wp 9 45 [some (vR 8), some (vR 13), some (vI r), some (vI a), some (vI b), some (vI i)] [] μ R) ∧ (¬ (b < i) → Wp 9 27 [some (vR 8), some (vR 13), some (vI r), some (vI a), some (vI b), some (vI i)] [] μ R) from ⟨fun c3 => ?_, fun c3 => ?_⟩)
    ·
      refine seg 2 (show (1 = 0 ∨ 1 = 1) ∧ R (some (vI 1)) μ from ⟨by decide, ?_⟩)
      first | (exfalso; omega) | exact hy ⟨hb, fun x h1 h2 => hA x h1 (by omega)⟩ | exact hn (fun z => by have := z.2 i h0 (by omega); omega)
    ·
      refine seg 4 (show Wp 20 0 [some (vR 13), some (vI r), some (vI i)] [] μ (fun rr μ' => Wp 9 34 [some (vR 8), some (vR 13), some (vI r), some (vI a), some (vI b), some (vI i)] (rr.toList ++ []) μ' R) from ?_)
      refine p20v hI (by omega) (fun b4 => ?_) (fun b4 => ?_)
      ·
        refine seg 1 (show (1 = 0 → Wp 9 39 [some (vR 8), some (vR 13), some (vI r), some (vI a), some (vI b), some (vI i)] [] μ R) ∧ (¬ (1 = 0) → Wp 9 37 [some (vR 8), some (vR 13), some (vI r), some (vI a), some (vI b), some (vI i)] [] μ R) from ⟨fun z => absurd z (by decide), fun _ => ?_⟩)
        refine seg 2 (show (0 = 0 ∨ 0 = 1) ∧ R (some (vI 0)) μ from ⟨by decide, ?_⟩)
        first | (exfalso; omega) | exact hy ⟨hb, fun x h1 h2 => hA x h1 (by omega)⟩ | exact hn (fun z => by have := z.2 i h0 (by omega); omega)
      ·
        refine seg 1 (show (0 = 0 → Wp 9 39 [some (vR 8), some (vR 13), some (vI r), some (vI a), some (vI b), some (vI i)] [] μ R) ∧ (¬ (0 = 0) → Wp 9 37 [some (vR 8), some (vR 13), some (vI r), some (vI a), some (vI b), some (vI i)] [] μ R) from ⟨fun _ => ?_, fun z => absurd z (by decide)⟩)
        refine seg 2 (show iR (i + 1) ∧ Wp 9 20 [some (vR 8), some (vR 13), some (vI r), some (vI a), some (vI b), some (vI (i + 1))] [] μ R from ⟨by omega, ?_⟩)
        exact ih (i + 1) (by omega) (by omega) (fun x h1 h2 => by
          by_cases hx : x = i
          · subst hx; assumption
          · exact hA x h1 (by omega))
theorem s9 {G : Hi} {r a b : Int} {R : Po} {μ : Mu} (hc : GC G μ) (hI : PrC13 G μ r) (hr : 0 ≤ r ∧ r < hN G) (hp : 0 ≤ hP G r 0 ∧ hP G r 0 < hN G) (ha : 0 ≤ a) (hy : (b < hS G (hP G r 0) ∧ ∀ i, a ≤ i → i ≤ b → ip G r i = 0) → R (some (vI 1)) μ) (hn : ¬ (b < hS G (hP G r 0) ∧ ∀ i, a ≤ i → i ≤ b → ip G r i = 0) → R (some (vI 0)) μ) : Wp 9 0 [some (vR 8), some (vR 13), some (vI r), some (vI a), some (vI b), none] [] μ R := by
  have h2 := hc.1.n
  have hsp := hc.1.s hp
  have hsr := hc.1.s hr
  refine seg 6 (show Wp 47 0 [some (vR 8), some (vI r), some (vI 0)] [] μ (fun rr μ' => Wp 9 9 [some (vR 8), some (vR 13), some (vI r), some (vI a), some (vI b), none] (rr.toList ++ [vR 8, vI b]) μ' R) from ?_)
  refine g47 hc (by omega) (by decide) ?_
  refine seg 1 (show Wp 46 0 [some (vR 8), some (vI (hP G r 0))] [] μ (fun rr μ' => Wp 9 12 [some (vR 8), some (vR 13), some (vI r), some (vI a), some (vI b), none] (rr.toList ++ [vI b]) μ' R) from ?_)
  refine g46 hc (by omega) ?_
  refine seg 1 (show (b < hS G (hP G r 0) → Wp 9 17 [some (vR 8), some (vR 13), some (vI r), some (vI a), some (vI b), none] [] μ R) ∧ (¬ (b < hS G (hP G r 0)) → Wp 9 15 [some (vR 8), some (vR 13), some (vI r), some (vI a), some (vI b), none] [] μ R) from ⟨fun c1 => ?_, fun c1 => ?_⟩)
  ·
    refine seg 2 (show Wp 9 20 [some (vR 8), some (vR 13), some (vI r), some (vI a), some (vI b), some (vI a)] [] μ R from ?_)
    exact l9 hc hI hr hp ha (by omega) hy hn _ a rfl (Int.le_refl _) (fun x h1 h2 => absurd h2 (by omega))
  ·
    refine seg 2 (show (0 = 0 ∨ 0 = 1) ∧ R (some (vI 0)) μ from ⟨by decide, ?_⟩)
    exact hn (fun z => by have := z.1; omega)
theorem s9n {G : Hi} {r a b : Int} {R : Po} {μ : Mu} (hc : GC G μ) (hb : 0 ≤ b) (hpar : ∀ {R : Po}, R (some (vI (-9))) μ → Wp 47 0 [some (vR 8), some (vI r), some (vI 0)] [] μ R) (hn : R (some (vI 0)) μ) : Wp 9 0 [some (vR 8), some (vR 13), some (vI r), some (vI a), some (vI b), none] [] μ R := by
  refine seg 6 (show Wp 47 0 [some (vR 8), some (vI r), some (vI 0)] [] μ (fun rr μ' => Wp 9 9 [some (vR 8), some (vR 13), some (vI r), some (vI a), some (vI b), none] (rr.toList ++ [vR 8, vI b]) μ' R) from ?_)
  refine hpar ?_
  refine seg 1 (show Wp 46 0 [some (vR 8), some (vI (-9))] [] μ (fun rr μ' => Wp 9 12 [some (vR 8), some (vR 13), some (vI r), some (vI a), some (vI b), none] (rr.toList ++ [vI b]) μ' R) from ?_)
  refine g46n hc (by decide) ?_
  refine seg 1 (show (b < 0 → Wp 9 17 [some (vR 8), some (vR 13), some (vI r), some (vI a), some (vI b), none] [] μ R) ∧ (¬ (b < 0) → Wp 9 15 [some (vR 8), some (vR 13), some (vI r), some (vI a), some (vI b), none] [] μ R) from ⟨fun c1 => ?_, fun c1 => ?_⟩)
  ·
    exfalso; omega
  ·
    refine seg 2 (show (0 = 0 ∨ 0 = 1) ∧ R (some (vI 0)) μ from ⟨by decide, ?_⟩)
    exact hn
def ahP (Pf : Int → Int) : Nat → Int × Int
  | 0 => (-1, -1)
  | k + 1 => if Pf k = -9 then ahP Pf k else ((k : Int), Pf k)
theorem ahP_rg {Pf : Int → Int} (hPf : ∀ k, Pf k = -9 ∨ (0 ≤ Pf k ∧ Pf k < 8)) : ∀ k : Nat, (-1 ≤ (ahP Pf k).1 ∧ (ahP Pf k).1 < k) ∧ (-1 ≤ (ahP Pf k).2 ∧ (ahP Pf k).2 < 8) := by
  intro k
  induction k with
  | zero => show ((-1 : Int) ≤ -1 ∧ (-1 : Int) < ((0 : Nat) : Int)) ∧ ((-1 : Int) ≤ -1 ∧ (-1 : Int) < 8); decide
  | succ k ih =>
    rw [ahP]
    split
    · omega
    · have := hPf k
      dsimp only
      omega
theorem ahd_P (G : Hi) (r : Int) : ∀ k : Nat, ahd G r k = ahP (pr G r 0) k := by
  intro k
  induction k with
  | zero => rfl
  | succ k ih => rw [ahd, ahP, ih]
noncomputable def gpY (Pf : Int → Int) (Y : Int → Int → Prop) (k : Nat) : Int := @ite _ (Y ((ahP Pf k).2 + 1) ((ahP Pf k).2 + k - (ahP Pf k).1)) (Classical.propDecidable _) ((ahP Pf k).2 + k - (ahP Pf k).1) (-9)
theorem gpY_y {Pf : Int → Int} {Y : Int → Int → Prop} {k : Nat} (h : Y ((ahP Pf k).2 + 1) ((ahP Pf k).2 + k - (ahP Pf k).1)) : gpY Pf Y k = (ahP Pf k).2 + k - (ahP Pf k).1 := if_pos h
theorem gpY_n {Pf : Int → Int} {Y : Int → Int → Prop} {k : Nat} (h : ¬ Y ((ahP Pf k).2 + 1) ((ahP Pf k).2 + k - (ahP Pf k).1)) : gpY Pf Y k = -9 := if_neg h
theorem p19x {μ : Mu} {R : Po} {r k v : Int} (hv : μ 15 (r * 8 + k) = v) (hb : 0 ≤ r ∧ r < 8 ∧ 0 ≤ k ∧ k < 8) (h : R (some (vI v)) μ) : Wp 19 0 [some (vR 13), some (vI r), some (vI k)] [] μ R := s19v_13 hb (by rw [hv]; exact h)
theorem l8a {r : Int} {R : Po} {μ0 : Mu} {Pf : Int → Int} {Y : Int → Int → Prop} (hr : 0 ≤ r ∧ r < 8) (hPf : ∀ k, Pf k = -9 ∨ (0 ≤ Pf k ∧ Pf k < 8)) (hP0 : ∀ k, 0 ≤ k → k < 8 → μ0 15 (r * 8 + k) = Pf k) (hun : ∀ (a b : Int) (μ : Mu) (R : Po), (∀ q, q ≠ 29 → μ q = μ0 q) → 0 ≤ a → 0 ≤ b → (Y a b → R (some (vI 1)) μ) → (¬ Y a b → R (some (vI 0)) μ) → Wp 9 0 [some (vR 8), some (vR 13), some (vI r), some (vI a), some (vI b), none] [] μ R) (hk : ∀ (μ : Mu) (o4 o5 o6 o7 o8 : Option PV), ((∀ q, q ≠ 29 → μ q = μ0 q) ∧ (∀ y, ¬ (r * 8 ≤ y ∧ y < r * 8 + 8) → μ 29 y = μ0 29 y)) → (∀ x : Nat, x < 8 → μ 29 (r * 8 + x) = gpY Pf Y x) → Wp 8 102 [some (vR 28), some (vR 8), some (vR 13), some (vI r), o4, o5, o6, o7, o8] [] μ R) : ∀ (n : Nat) (k : Nat) (μ : Mu) (o7 o8 : Option PV), 8 - (k : Int) = n → ((∀ q, q ≠ 29 → μ q = μ0 q) ∧ (∀ y, ¬ (r * 8 ≤ y ∧ y < r * 8 + 8) → μ 29 y = μ0 29 y)) → (∀ x : Nat, x < k → μ 29 (r * 8 + x) = gpY Pf Y x) → Wp 8 17 [some (vR 28), some (vR 8), some (vR 13), some (vI r), some (vI ((ahP Pf k).1)), some (vI ((ahP Pf k).2)), some (vI (k : Int)), o7, o8] [] μ R := by
  intro n
  induction n with
  | zero =>
    intro k μ o7 o8 hn hF hS
    have hg := ahP_rg hPf k
    refine seg 3 (show (8 ≤ (k : Int) → Wp 8 102 [some (vR 28), some (vR 8), some (vR 13), some (vI r), some (vI ((ahP Pf k).1)), some (vI ((ahP Pf k).2)), some (vI (k : Int)), o7, o8] [] μ R) ∧ (¬ (8 ≤ (k : Int)) → Wp 8 24 [some (vR 28), some (vR 8), some (vR 13), some (vI r), some (vI ((ahP Pf k).1)), some (vI ((ahP Pf k).2)), some (vI (k : Int)), o7, o8] [] μ R) from ⟨fun c1 => ?_, fun c1 => ?_⟩)
    ·
      first | (exfalso; omega) | exact hk μ _ _ _ _ _ hF (fun x hx => hS x (by omega))
    ·
      refine seg 14 (show iR (((ahP Pf k).2) + (k : Int)) ∧ iR ((((ahP Pf k).2) + (k : Int)) - ((ahP Pf k).1)) ∧ iR (((ahP Pf k).2) + 1) ∧ Wp 9 0 [some (vR 8), some (vR 13), some (vI r), some (vI (((ahP Pf k).2) + 1)), some (vI ((((ahP Pf k).2) + (k : Int)) - ((ahP Pf k).1))), none] [] μ (fun rr μ' => Wp 8 46 [some (vR 28), some (vR 8), some (vR 13), some (vI r), some (vI ((ahP Pf k).1)), some (vI ((ahP Pf k).2)), some (vI (k : Int)), some (vI ((((ahP Pf k).2) + (k : Int)) - ((ahP Pf k).1))), o8] (rr.toList ++ []) μ' R) from ⟨by omega, by omega, by omega, ?_⟩)
      exfalso; omega
  | succ n ih =>
    intro k μ o7 o8 hn hF hS
    have hg := ahP_rg hPf k
    refine seg 3 (show (8 ≤ (k : Int) → Wp 8 102 [some (vR 28), some (vR 8), some (vR 13), some (vI r), some (vI ((ahP Pf k).1)), some (vI ((ahP Pf k).2)), some (vI (k : Int)), o7, o8] [] μ R) ∧ (¬ (8 ≤ (k : Int)) → Wp 8 24 [some (vR 28), some (vR 8), some (vR 13), some (vI r), some (vI ((ahP Pf k).1)), some (vI ((ahP Pf k).2)), some (vI (k : Int)), o7, o8] [] μ R) from ⟨fun c2 => ?_, fun c2 => ?_⟩)
    ·
      first | (exfalso; omega) | exact hk μ _ _ _ _ _ hF (fun x hx => hS x (by omega))
    ·
      refine seg 14 (show iR (((ahP Pf k).2) + (k : Int)) ∧ iR ((((ahP Pf k).2) + (k : Int)) - ((ahP Pf k).1)) ∧ iR (((ahP Pf k).2) + 1) ∧ Wp 9 0 [some (vR 8), some (vR 13), some (vI r), some (vI (((ahP Pf k).2) + 1)), some (vI ((((ahP Pf k).2) + (k : Int)) - ((ahP Pf k).1))), none] [] μ (fun rr μ' => Wp 8 46 [some (vR 28), some (vR 8), some (vR 13), some (vI r), some (vI ((ahP Pf k).1)), some (vI ((ahP Pf k).2)), some (vI (k : Int)), some (vI ((((ahP Pf k).2) + (k : Int)) - ((ahP Pf k).1))), o8] (rr.toList ++ []) μ' R) from ⟨by omega, by omega, by omega, ?_⟩)
      refine hun _ _ μ _ hF.1 (by omega) (by omega) (fun b3 => ?_) (fun b3 => ?_)
      ·
        refine seg 6 (show Wp 114 0 [some (vI r), some (vI (k : Int))] [] μ (fun rr μ' => Wp 8 58 [some (vR 28), some (vR 8), some (vR 13), some (vI r), some (vI ((ahP Pf k).1)), some (vI ((ahP Pf k).2)), some (vI (k : Int)), some (vI ((((ahP Pf k).2) + (k : Int)) - ((ahP Pf k).1))), some (vI 1)] (rr.toList ++ [vR 29]) μ' R) from ?_)
        refine s114 (by omega) ?_
        refine seg 2 (show (1 = 0 → Wp 8 68 [some (vR 28), some (vR 8), some (vR 13), some (vI r), some (vI ((ahP Pf k).1)), some (vI ((ahP Pf k).2)), some (vI (k : Int)), some (vI ((((ahP Pf k).2) + (k : Int)) - ((ahP Pf k).1))), some (vI 1)] [vI (r * 8 + (k : Int)), vR 29] μ R) ∧ (¬ (1 = 0) → Wp 8 63 [some (vR 28), some (vR 8), some (vR 13), some (vI r), some (vI ((ahP Pf k).1)), some (vI ((ahP Pf k).2)), some (vI (k : Int)), some (vI ((((ahP Pf k).2) + (k : Int)) - ((ahP Pf k).1))), some (vI 1)] [vI (r * 8 + (k : Int)), vR 29] μ R) from ⟨fun z => absurd z (by decide), fun _ => ?_⟩)
        refine seg 7 (show (0 ≤ (r * 8 + (k : Int)) ∧ (r * 8 + (k : Int)) < 64) ∧ Wp 19 0 [some (vR 13), some (vI r), some (vI (k : Int))] [] (u2 μ 29 (r * 8 + (k : Int)) ((((ahP Pf k).2) + (k : Int)) - ((ahP Pf k).1))) (fun rr μ' => Wp 8 78 [some (vR 28), some (vR 8), some (vR 13), some (vI r), some (vI ((ahP Pf k).1)), some (vI ((ahP Pf k).2)), some (vI (k : Int)), some (vI ((((ahP Pf k).2) + (k : Int)) - ((ahP Pf k).1))), some (vI 1)] (rr.toList ++ []) μ' R) from ⟨by omega, ?_⟩)
        refine p19x (v := Pf (k : Int)) (by rw [u2_ne (by decide), hF.1 15 (by decide)]; exact hP0 _ (by omega) (by omega)) (by omega) ?_
        refine seg 2 (show (Pf (k : Int) = -9 → Wp 8 96 [some (vR 28), some (vR 8), some (vR 13), some (vI r), some (vI ((ahP Pf k).1)), some (vI ((ahP Pf k).2)), some (vI (k : Int)), some (vI ((((ahP Pf k).2) + (k : Int)) - ((ahP Pf k).1))), some (vI 1)] [] (u2 μ 29 (r * 8 + (k : Int)) ((((ahP Pf k).2) + (k : Int)) - ((ahP Pf k).1))) R) ∧ (¬ (Pf (k : Int) = -9) → Wp 8 83 [some (vR 28), some (vR 8), some (vR 13), some (vI r), some (vI ((ahP Pf k).1)), some (vI ((ahP Pf k).2)), some (vI (k : Int)), some (vI ((((ahP Pf k).2) + (k : Int)) - ((ahP Pf k).1))), some (vI 1)] [] (u2 μ 29 (r * 8 + (k : Int)) ((((ahP Pf k).2) + (k : Int)) - ((ahP Pf k).1))) R) from ⟨fun c4 => ?_, fun c4 => ?_⟩)
        ·
          refine seg 2 (show iR ((k : Int) + 1) ∧ Wp 8 17 [some (vR 28), some (vR 8), some (vR 13), some (vI r), some (vI ((ahP Pf k).1)), some (vI ((ahP Pf k).2)), some (vI ((k : Int) + 1)), some (vI ((((ahP Pf k).2) + (k : Int)) - ((ahP Pf k).1))), some (vI 1)] [] (u2 μ 29 (r * 8 + (k : Int)) ((((ahP Pf k).2) + (k : Int)) - ((ahP Pf k).1))) R from ⟨by omega, ?_⟩)
          have e : ahP Pf (k + 1) = ((ahP Pf k).1, (ahP Pf k).2) := by
            rw [ahP]
            first | (rw [if_pos (by assumption)]) | (rw [if_neg (by assumption)])
          have := ih (k + 1) (u2 μ 29 (r * 8 + (k : Int)) ((((ahP Pf k).2) + (k : Int)) - ((ahP Pf k).1))) (some (vI ((((ahP Pf k).2) + (k : Int)) - ((ahP Pf k).1)))) (some (vI 1)) (by omega) ⟨fun q hq => by rw [u2_ne hq]; exact hF.1 q hq, fun y hy => by rw [u2_at, up1_n (by omega)]; exact hF.2 y hy⟩ (fun x hx => by
            rw [u2_at]
            by_cases hxk : x = k
            · subst hxk; rw [up1_s]; first | exact (gpY_y (by assumption)).symm | exact (gpY_n (by assumption)).symm
            · rw [up1_n (by omega)]; exact hS x (by omega))
          rw [e] at this
          exact this
        ·
          refine seg 6 (show Wp 19 0 [some (vR 13), some (vI r), some (vI (k : Int))] [] (u2 μ 29 (r * 8 + (k : Int)) ((((ahP Pf k).2) + (k : Int)) - ((ahP Pf k).1))) (fun rr μ' => Wp 8 94 [some (vR 28), some (vR 8), some (vR 13), some (vI r), some (vI (k : Int)), some (vI ((ahP Pf k).2)), some (vI (k : Int)), some (vI ((((ahP Pf k).2) + (k : Int)) - ((ahP Pf k).1))), some (vI 1)] (rr.toList ++ []) μ' R) from ?_)
          refine p19x (v := Pf (k : Int)) (by rw [u2_ne (by decide), hF.1 15 (by decide)]; exact hP0 _ (by omega) (by omega)) (by omega) ?_
          refine seg 3 (show iR ((k : Int) + 1) ∧ Wp 8 17 [some (vR 28), some (vR 8), some (vR 13), some (vI r), some (vI (k : Int)), some (vI (Pf (k : Int))), some (vI ((k : Int) + 1)), some (vI ((((ahP Pf k).2) + (k : Int)) - ((ahP Pf k).1))), some (vI 1)] [] (u2 μ 29 (r * 8 + (k : Int)) ((((ahP Pf k).2) + (k : Int)) - ((ahP Pf k).1))) R from ⟨by omega, ?_⟩)
          have e : ahP Pf (k + 1) = ((k : Int), Pf (k : Int)) := by
            rw [ahP]
            first | (rw [if_pos (by assumption)]) | (rw [if_neg (by assumption)])
          have := ih (k + 1) (u2 μ 29 (r * 8 + (k : Int)) ((((ahP Pf k).2) + (k : Int)) - ((ahP Pf k).1))) (some (vI ((((ahP Pf k).2) + (k : Int)) - ((ahP Pf k).1)))) (some (vI 1)) (by omega) ⟨fun q hq => by rw [u2_ne hq]; exact hF.1 q hq, fun y hy => by rw [u2_at, up1_n (by omega)]; exact hF.2 y hy⟩ (fun x hx => by
            rw [u2_at]
            by_cases hxk : x = k
            · subst hxk; rw [up1_s]; first | exact (gpY_y (by assumption)).symm | exact (gpY_n (by assumption)).symm
            · rw [up1_n (by omega)]; exact hS x (by omega))
          rw [e] at this
          exact this
      ·
        refine seg 6 (show Wp 114 0 [some (vI r), some (vI (k : Int))] [] μ (fun rr μ' => Wp 8 58 [some (vR 28), some (vR 8), some (vR 13), some (vI r), some (vI ((ahP Pf k).1)), some (vI ((ahP Pf k).2)), some (vI (k : Int)), some (vI ((((ahP Pf k).2) + (k : Int)) - ((ahP Pf k).1))), some (vI 0)] (rr.toList ++ [vR 29]) μ' R) from ?_)
        refine s114 (by omega) ?_
        refine seg 2 (show (0 = 0 → Wp 8 68 [some (vR 28), some (vR 8), some (vR 13), some (vI r), some (vI ((ahP Pf k).1)), some (vI ((ahP Pf k).2)), some (vI (k : Int)), some (vI ((((ahP Pf k).2) + (k : Int)) - ((ahP Pf k).1))), some (vI 0)] [vI (r * 8 + (k : Int)), vR 29] μ R) ∧ (¬ (0 = 0) → Wp 8 63 [some (vR 28), some (vR 8), some (vR 13), some (vI r), some (vI ((ahP Pf k).1)), some (vI ((ahP Pf k).2)), some (vI (k : Int)), some (vI ((((ahP Pf k).2) + (k : Int)) - ((ahP Pf k).1))), some (vI 0)] [vI (r * 8 + (k : Int)), vR 29] μ R) from ⟨fun _ => ?_, fun z => absurd z (by decide)⟩)
        refine seg 6 (show (0 ≤ (r * 8 + (k : Int)) ∧ (r * 8 + (k : Int)) < 64) ∧ Wp 19 0 [some (vR 13), some (vI r), some (vI (k : Int))] [] (u2 μ 29 (r * 8 + (k : Int)) (-9)) (fun rr μ' => Wp 8 78 [some (vR 28), some (vR 8), some (vR 13), some (vI r), some (vI ((ahP Pf k).1)), some (vI ((ahP Pf k).2)), some (vI (k : Int)), some (vI ((((ahP Pf k).2) + (k : Int)) - ((ahP Pf k).1))), some (vI 0)] (rr.toList ++ []) μ' R) from ⟨by omega, ?_⟩)
        refine p19x (v := Pf (k : Int)) (by rw [u2_ne (by decide), hF.1 15 (by decide)]; exact hP0 _ (by omega) (by omega)) (by omega) ?_
        refine seg 2 (show (Pf (k : Int) = -9 → Wp 8 96 [some (vR 28), some (vR 8), some (vR 13), some (vI r), some (vI ((ahP Pf k).1)), some (vI ((ahP Pf k).2)), some (vI (k : Int)), some (vI ((((ahP Pf k).2) + (k : Int)) - ((ahP Pf k).1))), some (vI 0)] [] (u2 μ 29 (r * 8 + (k : Int)) (-9)) R) ∧ (¬ (Pf (k : Int) = -9) → Wp 8 83 [some (vR 28), some (vR 8), some (vR 13), some (vI r), some (vI ((ahP Pf k).1)), some (vI ((ahP Pf k).2)), some (vI (k : Int)), some (vI ((((ahP Pf k).2) + (k : Int)) - ((ahP Pf k).1))), some (vI 0)] [] (u2 μ 29 (r * 8 + (k : Int)) (-9)) R) from ⟨fun c5 => ?_, fun c5 => ?_⟩)
        ·
          refine seg 2 (show iR ((k : Int) + 1) ∧ Wp 8 17 [some (vR 28), some (vR 8), some (vR 13), some (vI r), some (vI ((ahP Pf k).1)), some (vI ((ahP Pf k).2)), some (vI ((k : Int) + 1)), some (vI ((((ahP Pf k).2) + (k : Int)) - ((ahP Pf k).1))), some (vI 0)] [] (u2 μ 29 (r * 8 + (k : Int)) (-9)) R from ⟨by omega, ?_⟩)
          have e : ahP Pf (k + 1) = ((ahP Pf k).1, (ahP Pf k).2) := by
            rw [ahP]
            first | (rw [if_pos (by assumption)]) | (rw [if_neg (by assumption)])
          have := ih (k + 1) (u2 μ 29 (r * 8 + (k : Int)) (-9)) (some (vI ((((ahP Pf k).2) + (k : Int)) - ((ahP Pf k).1)))) (some (vI 0)) (by omega) ⟨fun q hq => by rw [u2_ne hq]; exact hF.1 q hq, fun y hy => by rw [u2_at, up1_n (by omega)]; exact hF.2 y hy⟩ (fun x hx => by
            rw [u2_at]
            by_cases hxk : x = k
            · subst hxk; rw [up1_s]; first | exact (gpY_y (by assumption)).symm | exact (gpY_n (by assumption)).symm
            · rw [up1_n (by omega)]; exact hS x (by omega))
          rw [e] at this
          exact this
        ·
          refine seg 6 (show Wp 19 0 [some (vR 13), some (vI r), some (vI (k : Int))] [] (u2 μ 29 (r * 8 + (k : Int)) (-9)) (fun rr μ' => Wp 8 94 [some (vR 28), some (vR 8), some (vR 13), some (vI r), some (vI (k : Int)), some (vI ((ahP Pf k).2)), some (vI (k : Int)), some (vI ((((ahP Pf k).2) + (k : Int)) - ((ahP Pf k).1))), some (vI 0)] (rr.toList ++ []) μ' R) from ?_)
          refine p19x (v := Pf (k : Int)) (by rw [u2_ne (by decide), hF.1 15 (by decide)]; exact hP0 _ (by omega) (by omega)) (by omega) ?_
          refine seg 3 (show iR ((k : Int) + 1) ∧ Wp 8 17 [some (vR 28), some (vR 8), some (vR 13), some (vI r), some (vI (k : Int)), some (vI (Pf (k : Int))), some (vI ((k : Int) + 1)), some (vI ((((ahP Pf k).2) + (k : Int)) - ((ahP Pf k).1))), some (vI 0)] [] (u2 μ 29 (r * 8 + (k : Int)) (-9)) R from ⟨by omega, ?_⟩)
          have e : ahP Pf (k + 1) = ((k : Int), Pf (k : Int)) := by
            rw [ahP]
            first | (rw [if_pos (by assumption)]) | (rw [if_neg (by assumption)])
          have := ih (k + 1) (u2 μ 29 (r * 8 + (k : Int)) (-9)) (some (vI ((((ahP Pf k).2) + (k : Int)) - ((ahP Pf k).1)))) (some (vI 0)) (by omega) ⟨fun q hq => by rw [u2_ne hq]; exact hF.1 q hq, fun y hy => by rw [u2_at, up1_n (by omega)]; exact hF.2 y hy⟩ (fun x hx => by
            rw [u2_at]
            by_cases hxk : x = k
            · subst hxk; rw [up1_s]; first | exact (gpY_y (by assumption)).symm | exact (gpY_n (by assumption)).symm
            · rw [up1_n (by omega)]; exact hS x (by omega))
          rw [e] at this
          exact this
theorem l8 {G : Hi} {R : Po} {μ0 : Mu} (hc0 : GC G μ0) (hI0 : ∀ x, 0 ≤ x → x < hN G → PrC13 G μ0 x) (hJ0 : ∀ x k, hN G ≤ x → 0 ≤ x → x < 8 → 0 ≤ k → k < 8 → μ0 15 (x * 8 + k) = -9) (hk : ∀ μ : Mu, (∀ q, q ≠ 29 → μ q = μ0 q) → (∀ x, 0 ≤ x → x < hN G → x < hN G → 0 ≤ hP G x 0 → ∀ k : Nat, k < 8 → μ 29 (x * 8 + k) = gp G x k) → R none μ) : ∀ (n : Nat) (r : Int) (μ : Mu) (o4 o5 o6 o7 o8 : Option PV), 8 - r = n → 0 ≤ r → (∀ q, q ≠ 29 → μ q = μ0 q) → (∀ x, 0 ≤ x → x < r → x < hN G → 0 ≤ hP G x 0 → ∀ k : Nat, k < 8 → μ 29 (x * 8 + k) = gp G x k) → Wp 8 2 [some (vR 28), some (vR 8), some (vR 13), some (vI r), o4, o5, o6, o7, o8] [] μ R := by
  have h2 := hc0.1.n
  intro n
  induction n with
  | zero =>
    intro r μ o4 o5 o6 o7 o8 hn h0 hF hM
    refine seg 3 (show (8 ≤ r → Wp 8 108 [some (vR 28), some (vR 8), some (vR 13), some (vI r), o4, o5, o6, o7, o8] [] μ R) ∧ (¬ (8 ≤ r) → Wp 8 8 [some (vR 28), some (vR 8), some (vR 13), some (vI r), o4, o5, o6, o7, o8] [] μ R) from ⟨fun c1 => ?_, fun c1 => ?_⟩)
    ·
      refine seg 1 (show R none μ from ?_)
      first | (exfalso; omega) | exact hk μ hF (fun x h1 h2 h3 => hM x h1 (by omega) h3)
    ·
      refine seg 6 (show Wp 8 17 [some (vR 28), some (vR 8), some (vR 13), some (vI r), some (vI (-1)), some (vI (-1)), some (vI 0), o7, o8] [] μ R from ?_)
      exfalso; omega
  | succ n ih =>
    intro r μ o4 o5 o6 o7 o8 hn h0 hF hM
    refine seg 3 (show (8 ≤ r → Wp 8 108 [some (vR 28), some (vR 8), some (vR 13), some (vI r), o4, o5, o6, o7, o8] [] μ R) ∧ (¬ (8 ≤ r) → Wp 8 8 [some (vR 28), some (vR 8), some (vR 13), some (vI r), o4, o5, o6, o7, o8] [] μ R) from ⟨fun c2 => ?_, fun c2 => ?_⟩)
    ·
      refine seg 1 (show R none μ from ?_)
      first | (exfalso; omega) | exact hk μ hF (fun x h1 h2 h3 => hM x h1 (by omega) h3)
    ·
      refine seg 6 (show Wp 8 17 [some (vR 28), some (vR 8), some (vR 13), some (vI r), some (vI (-1)), some (vI (-1)), some (vI 0), o7, o8] [] μ R from ?_)
      have back : ∀ (Pf : Int → Int) (Y : Int → Int → Prop) (μ2 : Mu) (o4 o5 o6 o7 o8 : Option PV), ((∀ q, q ≠ 29 → μ2 q = μ q) ∧ (∀ y, ¬ (r * 8 ≤ y ∧ y < r * 8 + 8) → μ2 29 y = μ 29 y)) → (r < hN G → 0 ≤ hP G r 0 → ∀ k : Nat, k < 8 → μ2 29 (r * 8 + k) = gp G r k) → Wp 8 102 [some (vR 28), some (vR 8), some (vR 13), some (vI r), o4, o5, o6, o7, o8] [] μ2 R := by
        intro Pf Y μ2 o4 o5 o6 o7 o8 f1 f2
        refine seg 2 (show iR (r + 1) ∧ Wp 8 2 [some (vR 28), some (vR 8), some (vR 13), some (vI (r + 1)), o4, o5, o6, o7, o8] [] μ2 R from ⟨by omega, ?_⟩)
        refine ih (r + 1) μ2 _ _ _ _ _ (by omega) (by omega) (fun q hq => by rw [f1.1 q hq]; exact hF q hq) (fun x h1 h2 h3 h4 k hk8 => ?_)
        by_cases hx : x = r
        · subst hx; exact f2 h3 h4 k hk8
        · rw [f1.2 _ (by omega)]; exact hM x h1 (by omega) h3 h4 k hk8
      have cf : ∀ μ3 : Mu, (∀ q, q ≠ 29 → μ3 q = μ q) → GC G μ3 := fun μ3 f => hc0.fr (by rw [f 8 (by decide)]; exact hF 8 (by decide)) (by rw [f 9 (by decide)]; exact hF 9 (by decide)) (by rw [f 10 (by decide)]; exact hF 10 (by decide)) (by rw [f 11 (by decide)]; exact hF 11 (by decide))
      by_cases hrn : r < hN G
      · have hIr := hI0 r h0 hrn
        have hsr := hc0.1.s (r := r) ⟨h0, hrn⟩
        by_cases hpn : hP G r 0 = -9
        · refine l8a (r := r) (Pf := fun _ => -9) (Y := fun _ _ => False) (by omega) (fun _ => Or.inl rfl) (fun k h1 h2 => ?_) (fun a b μ3 R3 f3 ha hb _ hn3 => s9n (cf μ3 f3) hb (fun h => g47 (cf μ3 f3) (by omega) (by decide) (by rw [hpn]; exact h)) (hn3 (fun z => z))) (fun μ2 o4 o5 o6 o7 o8 f1 f2 => back (fun _ => -9) (fun _ _ => False) μ2 o4 o5 o6 o7 o8 f1 (fun _ h3 => absurd h3 (by omega))) 8 0 μ _ _ (by decide) ⟨fun _ _ => rfl, fun _ _ => rfl⟩ (fun x hx => absurd hx (Nat.not_lt_zero x))
          rw [hF 15 (by decide), hIr.2.1.1 k h1 h2]
          exact pr_no (by omega)
        · have hpv := hc0.1.pv (r := r) (w := 0) (by omega) (by decide) hpn
          have hsp := hc0.1.s (r := hP G r 0) (by omega)
          refine l8a (r := r) (Pf := pr G r 0) (Y := fun a b => b < hS G (hP G r 0) ∧ ∀ i, a ≤ i → i ≤ b → ip G r i = 0) (by omega) (fun k => ?_) (fun k h1 h2 => ?_) (fun a b μ3 R3 f3 ha hb hy3 hn3 => s9 (cf μ3 f3) ?_ (by omega) (by omega) ha hy3 hn3) (fun μ2 o4 o5 o6 o7 o8 f1 f2 => back (pr G r 0) (fun _ _ => False) μ2 o4 o5 o6 o7 o8 f1 (fun _ _ k hk8 => ?_)) 8 0 μ _ _ (by decide) ⟨fun _ _ => rfl, fun _ _ => rfl⟩ (fun x hx => absurd hx (Nat.not_lt_zero x))
          · have := pr_rg G r 0 k; omega
          · rw [hF 15 (by decide)]; exact hIr.2.1.1 k h1 h2
          · unfold PrC13
            rw [f3 14 (by decide), f3 15 (by decide), f3 16 (by decide), f3 17 (by decide), hF 14 (by decide), hF 15 (by decide), hF 16 (by decide), hF 17 (by decide)]
            exact hIr
          · rw [f2 k hk8]
            unfold gpY gp
            rw [ahd_P]
      · refine l8a (r := r) (Pf := fun _ => -9) (Y := fun _ _ => False) (by omega) (fun _ => Or.inl rfl) (fun k h1 h2 => ?_) (fun a b μ3 R3 f3 ha hb _ hn3 => s9n (cf μ3 f3) hb (fun h => g47n (cf μ3 f3) (by omega) h) (hn3 (fun z => z))) (fun μ2 o4 o5 o6 o7 o8 f1 f2 => back (fun _ => -9) (fun _ _ => False) μ2 o4 o5 o6 o7 o8 f1 (fun h3 => absurd h3 (by omega))) 8 0 μ _ _ (by decide) ⟨fun _ _ => rfl, fun _ _ => rfl⟩ (fun x hx => absurd hx (Nat.not_lt_zero x))
        rw [hF 15 (by decide)]
        exact hJ0 r k (by omega) h0 (by omega) h1 h2
theorem s8 {G : Hi} {R : Po} {μ : Mu} (hc : GC G μ) (hI : ∀ x, 0 ≤ x → x < hN G → PrC13 G μ x) (hJ : ∀ x k, hN G ≤ x → 0 ≤ x → x < 8 → 0 ≤ k → k < 8 → μ 15 (x * 8 + k) = -9) (hk : ∀ μ2 : Mu, (∀ q, q ≠ 29 → μ2 q = μ q) → (∀ x, 0 ≤ x → x < hN G → 0 ≤ hP G x 0 → ∀ k : Nat, k < 8 → μ2 29 (x * 8 + k) = gp G x k) → R none μ2) : Wp 8 0 [some (vR 28), some (vR 8), some (vR 13), none, none, none, none, none, none] [] μ R := by
  refine seg 2 (show Wp 8 2 [some (vR 28), some (vR 8), some (vR 13), some (vI 0), none, none, none, none, none] [] μ R from ?_)
  exact l8 hc hI hJ (fun μ2 f1 f2 => hk μ2 f1 (fun x h1 h2 h3 => f2 x h1 h2 h2 h3)) 8 0 μ none none none none none (by decide) (by decide) (fun _ _ => rfl) (fun x h1 h2 => absurd h2 (by omega))
end
section
/-! what the rules give, and traces, in the class -/
theorem allM_rg {G : Hi} {r k : Int} (hp : 0 ≤ hS G (hP G r 0)) {m : Nat} : ∀ (i : Nat), (i : Int) ≤ hS G (hP G r 0) → 0 < (allM G r k m i (0, -9)).1 → 0 ≤ (allM G r k m i (0, -9)).2 ∧ (allM G r k m i (0, -9)).2 < hS G (hP G r 0) := by
  have st : ∀ (q : Int × Int) (i j : Nat), (0 < q.1 → 0 ≤ q.2 ∧ q.2 < hS G (hP G r 0)) → 0 < (stM k q i j (rl G r i j)).1 → 0 ≤ (stM k q i j (rl G r i j)).2 ∧ (stM k q i j (rl G r i j)).2 < hS G (hP G r 0) := by
    intro q i j h
    have h2 := rl_rg (G := G) (r := r) _ (i : Int) (j : Int) (Nat.le_refl _)
    unfold stM
    split
    · intro _; dsimp only; omega
    · exact h
  have row : ∀ (q : Int × Int) (i : Nat), (0 < q.1 → 0 ≤ q.2 ∧ q.2 < hS G (hP G r 0)) → ∀ j : Nat, 0 < (rowM G r k i j q).1 → 0 ≤ (rowM G r k i j q).2 ∧ (rowM G r k i j q).2 < hS G (hP G r 0) := by
    intro q i h j
    induction j with
    | zero => exact h
    | succ j ih => exact st _ i j ih
  intro i
  induction i with
  | zero => intro _ h; exact absurd (show (0 : Int) < 0 from h) (by decide)
  | succ i ih => intro hi; exact row _ i (ih (by omega)) m
theorem mvB_rg {G : Hi} {s : Se} {r k : Int} (hp : 0 ≤ hP G r 0 → 0 ≤ hS G (hP G r 0)) : mvB G s r k = -9 ∨ (0 ≤ hP G r 0 ∧ 0 ≤ mvB G s r k ∧ mvB G s r k < hS G (hP G r 0)) := by
  unfold mvB
  split
  · rename_i h
    by_cases hq : hP G r 0 < 0
    · unfold mv at h
      rw [if_pos hq] at h
      have h2 : s.1 ≤ 0 := h.2
      omega
    · have e : mv G r k = allM G r k (hS G r).toNat (hS G (hP G r 0)).toNat (0, -9) := by unfold mv; rw [if_neg hq]
      rw [e] at h ⊢
      exact Or.inr ⟨by omega, allM_rg (hp (by omega)) _ (by have := hp (by omega); omega) (by omega)⟩
  · exact Or.inl rfl
theorem ahd_rg (G : Hi) (r : Int) (h8 : hS G (hP G r 0) ≤ 8) (k : Nat) : (-1 ≤ (ahd G r k).1 ∧ (ahd G r k).1 < k) ∧ (-1 ≤ (ahd G r k).2 ∧ (ahd G r k).2 < 8) := by
  rw [ahd_P]
  exact ahP_rg (fun k => by have := pr_rg G r 0 k; omega) k
theorem gp_rg {G : Hi} {r : Int} {k : Nat} (h8 : hS G (hP G r 0) ≤ 8) : gp G r k = -9 ∨ (0 ≤ gp G r k ∧ gp G r k < hS G (hP G r 0)) := by
  have h := ahd_rg G r h8 k
  unfold gp
  split
  · rename_i hq
    exact Or.inr ⟨by omega, hq.1⟩
  · exact Or.inl rfl
theorem gv_rg {G : Hi} (hG : HiOK G) {s : Se} {rule r k : Int} (hr : 0 ≤ r ∧ r < hN G) : gv G s rule r k = -9 ∨ ((0 ≤ gv G s rule r k ∧ gv G s rule r k < 64) ∧ (0 ≤ gv G s rule r k / 8 ∧ gv G s rule r k / 8 < r) ∧ (0 ≤ gv G s rule r k % 8 ∧ gv G s rule r k % 8 < hS G (gv G s rule r k / 8))) := by
  have key : ∀ (p l : Int), 0 ≤ p → p < r → 0 ≤ l → l < hS G p → hS G p ≤ 8 → ((0 ≤ p * 8 + l ∧ p * 8 + l < 64) ∧ (0 ≤ (p * 8 + l) / 8 ∧ (p * 8 + l) / 8 < r) ∧ (0 ≤ (p * 8 + l) % 8 ∧ (p * 8 + l) % 8 < hS G ((p * 8 + l) / 8))) := by
    intro p l h1 h2 h3 h4 h5
    have hn := hG.n
    have e : (p * 8 + l) / 8 = p := by omega
    rw [e]
    omega
  have p0 := hG.p (r := r) (w := 0) hr (by decide)
  have p1 := hG.p (r := r) (w := 1) hr (by decide)
  have s0 : 0 ≤ hP G r 0 → 0 ≤ hS G (hP G r 0) ∧ hS G (hP G r 0) ≤ 8 := fun h => hG.s (by rcases p0 with h1 | h1 <;> omega)
  have s1 : 0 ≤ hP G r 1 → 0 ≤ hS G (hP G r 1) ∧ hS G (hP G r 1) ≤ 8 := fun h => hG.s (by rcases p1 with h1 | h1 <;> omega)
  unfold gv
  split
  · split
    · exact Or.inl rfl
    · rename_i h
      have h2 := pr_rg G r 0 k
      have h3 : 0 ≤ hP G r 0 := by
        rcases p0 with h1 | h1
        · exact absurd (pr_no (by omega)) h
        · omega
      have h4 := s0 h3
      exact Or.inr (key _ _ h3 (by rcases p0 with h1 | h1 <;> omega) (by omega) (by omega) (by omega))
  · split
    · split
      · exact Or.inl rfl
      · rename_i h
        have h2 := pr_rg G r 1 k
        have h3 : 0 ≤ hP G r 1 := by
          rcases p1 with h1 | h1
          · exact absurd (pr_no (by omega)) h
          · omega
        have h4 := s1 h3
        exact Or.inr (key _ _ h3 (by rcases p1 with h1 | h1 <;> omega) (by omega) (by omega) (by omega))
    · split
      · split
        · exact Or.inl rfl
        · rename_i h
          have h2 := mvB_rg (G := G) (s := s) (r := r) (k := k) (fun h => (s0 h).1)
          have h3 : 0 ≤ hP G r 0 := by omega
          have h4 := s0 h3
          exact Or.inr (key _ _ h3 (by rcases p0 with h1 | h1 <;> omega) (by omega) (by omega) (by omega))
      · split
        · exact Or.inl rfl
        · rename_i h
          have h3 : 0 ≤ hP G r 0 := by omega
          have h4 := s0 h3
          have h2 := gp_rg (G := G) (r := r) (k := k.toNat) (by omega)
          exact Or.inr (key _ _ h3 (by rcases p0 with h1 | h1 <;> omega) (by omega) (by omega) (by omega))
theorem ruF_rg {G : Hi} {s : Se} {r k : Int} : ∀ (n : Nat) (j : Int), ruF G s r k n j = -9 ∨ ((j ≤ ruF G s r k n j ∧ ruF G s r k n j < j + n) ∧ 0 ≤ gv G s (ruF G s r k n j) r k) := by
  intro n
  induction n with
  | zero => intro j; exact Or.inl rfl
  | succ n ih =>
    intro j
    rw [ruF]
    split
    · rename_i h
      exact Or.inr ⟨by omega, h.2⟩
    · rcases ih (j + 1) with h | h
      · exact Or.inl h
      · exact Or.inr ⟨by omega, h.2⟩
theorem ru_rg (G : Hi) (s : Se) (r k : Int) : ru G s r k = -9 ∨ ((0 ≤ ru G s r k ∧ ru G s r k < 4) ∧ 0 ≤ gv G s (ru G s r k) r k) := by
  rcases ruF_rg (G := G) (s := s) (r := r) (k := k) 4 0 with h | h
  · exact Or.inl h
  · exact Or.inr ⟨⟨h.1.1, by have := h.1.2; unfold ru; omega⟩, h.2⟩
theorem og_no {G : Hi} {s : Se} {r k : Int} (h : ru G s r k = -9) : og G s r k = (r * 8 + k, 0) := by
  rw [og, dif_neg (fun z => by have := z.1; omega)]
theorem og_in {G : Hi} (hG : HiOK G) {s : Se} {r k : Int} (hr : 0 ≤ r ∧ r < hN G) (h : 0 ≤ ru G s r k) : og G s r k = ((og G s (gv G s (ru G s r k) r k / 8) (gv G s (ru G s r k) r k % 8)).1, (og G s (gv G s (ru G s r k) r k / 8) (gv G s (ru G s r k) r k % 8)).2 + 1) := by
  have h1 := ru_rg G s r k
  have h2 := gv_rg hG (s := s) (rule := ru G s r k) (k := k) hr
  rw [og, dif_pos ⟨h, by omega, by omega⟩]
theorem og_rg {G : Hi} (hG : HiOK G) {s : Se} : ∀ (n : Nat) (r k : Int), r.toNat < n → 0 ≤ r ∧ r < hN G → 0 ≤ k ∧ k < hS G r → (0 ≤ (og G s r k).1 ∧ (og G s r k).1 / 8 ≤ r ∧ (og G s r k).1 % 8 < hS G ((og G s r k).1 / 8)) ∧ (0 ≤ (og G s r k).2 ∧ (og G s r k).2 ≤ r) := by
  intro n
  induction n with
  | zero => intro r k h; exact absurd h (Nat.not_lt_zero _)
  | succ n ih =>
    intro r k hn hr hk
    have h1 := ru_rg G s r k
    have hs := hG.s hr
    rcases h1 with h1 | h1
    · rw [og_no h1]
      have e : (r * 8 + k) / 8 = r := by omega
      dsimp only
      rw [e]
      omega
    · have h2 := gv_rg hG (s := s) (rule := ru G s r k) (k := k) hr
      have h3 := ih (gv G s (ru G s r k) r k / 8) (gv G s (ru G s r k) r k % 8) (by omega) (by omega) (by omega)
      rw [og_in hG hr h1.1.1]
      dsimp only
      omega
theorem og_lt {G : Hi} (hG : HiOK G) (s : Se) {r k : Int} (hr : 0 ≤ r ∧ r < hN G) (hk : 0 ≤ k ∧ k < hS G r) : (0 ≤ (og G s r k).1 ∧ (og G s r k).1 < 64) ∧ (0 ≤ (og G s r k).1 / 8 ∧ (og G s r k).1 / 8 ≤ r) ∧ (0 ≤ (og G s r k).1 % 8 ∧ (og G s r k).1 % 8 < hS G ((og G s r k).1 / 8)) ∧ (0 ≤ (og G s r k).2 ∧ (og G s r k).2 ≤ r) := by
  have h := og_rg hG (s := s) (r.toNat + 1) r k (by omega) hr hk
  have hn := hG.n
  omega
def PG (G : Hi) (μ : Mu) : Prop := GC G μ ∧ ∀ x, 0 ≤ x → x < hN G → PrC13 G μ x ∧ PrC19 G μ x ∧ (∀ k, 0 ≤ k → k < 8 → MvC (μ 26) (μ 27) x k = mv G x k) ∧ (0 ≤ hP G x 0 → ∀ k : Nat, k < 8 → μ 29 (x * 8 + k) = gp G x k)
theorem PG.fr {G : Hi} {μ μ' : Mu} (h : PG G μ) (hf : ∀ q, 8 ≤ q → q ≤ 29 → μ' q = μ q) : PG G μ' := by
  unfold PG PrC13 PrC19
  rw [hf 14 (by decide) (by decide), hf 15 (by decide) (by decide), hf 16 (by decide) (by decide), hf 17 (by decide) (by decide), hf 20 (by decide) (by decide), hf 21 (by decide) (by decide), hf 22 (by decide) (by decide), hf 23 (by decide) (by decide), hf 26 (by decide) (by decide), hf 27 (by decide) (by decide), hf 29 (by decide) (by decide)]
  exact ⟨h.1.fr (hf 8 (by decide) (by decide)) (hf 9 (by decide) (by decide)) (hf 10 (by decide) (by decide)) (hf 11 (by decide) (by decide)), h.2⟩
def SeC (s : Se) (m : Int → Int) : Prop := m 0 = s.1 ∧ m 1 = s.2.1 ∧ m 2 = s.2.2
def SB (G : Hi) (s : Se) (rule r k v : Int) : Prop := (rule = 0 → v = pr G r 0 k) ∧ (rule = 1 → v = pr G r 1 k) ∧ (rule = 2 → v = mvB G s r k) ∧ (rule = 3 → 0 ≤ hP G r 0 → v = if tb s.2.1 r then gp G r k.toNat else -9)
theorem p18v {G : Hi} {μ : Mu} {R : Po} {r : Int} (hI : PrC13 G μ r) (hb : 0 ≤ r ∧ r < 8) (h : R (some (vI (hP G r 0))) μ) : Wp 18 0 [some (vR 13), some (vI r)] [] μ R := s18v_13 hb (by rw [hI.1]; exact h)
theorem p18w {G : Hi} {μ : Mu} {R : Po} {r : Int} (hI : PrC19 G μ r) (hb : 0 ≤ r ∧ r < 8) (h : R (some (vI (hP G r 1))) μ) : Wp 18 0 [some (vR 19), some (vI r)] [] μ R := s18v_19 hb (by rw [hI.1]; exact h)
theorem sb_rg {G : Hi} (hG : HiOK G) {s : Se} {rule r k v : Int} (hr : 0 ≤ r ∧ r < hN G) (hu : 0 ≤ rule ∧ rule < 4) (hv : SB G s rule r k v) (hp : (rule = 1 ∧ 0 ≤ hP G r 1) ∨ (rule ≠ 1 ∧ 0 ≤ hP G r 0)) : -9 ≤ v ∧ v ≤ 8 := by
  have p0 := hG.p (r := r) (w := 0) hr (by decide)
  have p1 := hG.p (r := r) (w := 1) hr (by decide)
  unfold PaOK at p0 p1
  rcases (show rule = 0 ∨ rule = 1 ∨ rule = 2 ∨ rule = 3 by omega) with rfl | rfl | rfl | rfl
  · have h1 := hv.1 rfl
    have h2 := pr_rg G r 0 k
    have h3 := hG.s (r := hP G r 0) (by omega)
    omega
  · have h1 := hv.2.1 rfl
    have h2 := pr_rg G r 1 k
    have h3 := hG.s (r := hP G r 1) (by omega)
    omega
  · have h1 := hv.2.2.1 rfl
    have h3 := hG.s (r := hP G r 0) (by omega)
    have h2 := mvB_rg (G := G) (s := s) (r := r) (k := k) (fun _ => h3.1)
    omega
  · have h1 := hv.2.2.2 rfl (by omega)
    have h3 := hG.s (r := hP G r 0) (by omega)
    have h2 := gp_rg (G := G) (r := r) (k := k.toNat) h3.2
    split at h1 <;> omega
theorem gv_sb {G : Hi} (hG : HiOK G) {s : Se} {rule r k v par : Int} (hr : 0 ≤ r ∧ r < hN G) (hu : 0 ≤ rule ∧ rule < 4) (hv : SB G s rule r k v) (hp : (rule = 1 ∧ par = hP G r 1) ∨ (rule ≠ 1 ∧ par = hP G r 0)) : gv G s rule r k = if par = -9 ∨ v = -9 then -9 else par * 8 + v := by
  have p0 := hG.p (r := r) (w := 0) hr (by decide)
  have p1 := hG.p (r := r) (w := 1) hr (by decide)
  unfold PaOK at p0 p1
  unfold gv
  rcases (show rule = 0 ∨ rule = 1 ∨ rule = 2 ∨ rule = 3 by omega) with rfl | rfl | rfl | rfl
  · have h1 := hv.1 rfl
    obtain rfl : par = hP G r 0 := by omega
    rw [if_pos rfl]
    by_cases hq : hP G r 0 = -9
    · rw [if_pos (pr_no (by omega)), if_pos (Or.inl hq)]
    · by_cases hq2 : v = -9
      · rw [if_pos (by omega), if_pos (Or.inr hq2)]
      · rw [if_neg (by omega), if_neg (by omega), h1]
  · have h1 := hv.2.1 rfl
    obtain rfl : par = hP G r 1 := by omega
    rw [if_neg (by decide), if_pos rfl]
    by_cases hq : hP G r 1 = -9
    · rw [if_pos (pr_no (by omega)), if_pos (Or.inl hq)]
    · by_cases hq2 : v = -9
      · rw [if_pos (by omega), if_pos (Or.inr hq2)]
      · rw [if_neg (by omega), if_neg (by omega), h1]
  · have h1 := hv.2.2.1 rfl
    obtain rfl : par = hP G r 0 := by omega
    rw [if_neg (by decide), if_neg (by decide), if_pos rfl, ← h1]
    by_cases hq : hP G r 0 = -9 ∨ v = -9
    · rw [if_pos (by omega), if_pos hq]
    · rw [if_neg (by omega), if_neg hq]
  · obtain rfl : par = hP G r 0 := by omega
    rw [if_neg (by decide), if_neg (by decide), if_neg (by decide)]
    by_cases hq : hP G r 0 = -9
    · rw [if_pos (by omega), if_pos (Or.inl hq)]
    · have h1 := hv.2.2.2 rfl (by omega)
      by_cases hb : tb s.2.1 r
      · rw [if_pos hb] at h1
        by_cases hq2 : v = -9
        · rw [if_pos (Or.inr (Or.inr (by omega))), if_pos (Or.inr hq2)]
        · rw [if_neg (fun z => by rcases z with z | z | z; omega; exact z hb; omega), if_neg (by omega), h1]
      · rw [if_neg hb] at h1
        rw [if_pos (Or.inr (Or.inl hb)), if_pos (Or.inr h1)]
theorem s30 {G : Hi} {R : Po} {μ : Mu} (hc : GC G μ) (hw0 : μ 13 0 = 0) (hw1 : μ 19 0 = 1) (hk : ∀ μ2 : Mu, (∀ q, (q ≤ 13 ∨ 30 ≤ q ∨ q = 19) → μ2 q = μ q) → PG G μ2 → R none μ2) : Wp 30 0 [some (vR 12), some (vR 8)] [] μ R := by
  refine seg 4 (show Wp 22 0 [some (vR 13), some (vR 8), none, none] [] μ (fun rr μ' => Wp 30 8 [some (vR 12), some (vR 8)] (rr.toList ++ []) μ' R) from ?_)
  refine s22_13 hc hw0 (fun μ1 f1 a1 j1 => ?_)
  have hc1 := hc.fr (f1 8 (by decide) (by decide) (by decide) (by decide) (by decide)) (f1 9 (by decide) (by decide) (by decide) (by decide) (by decide)) (f1 10 (by decide) (by decide) (by decide) (by decide) (by decide)) (f1 11 (by decide) (by decide) (by decide) (by decide) (by decide))
  refine seg 4 (show Wp 22 0 [some (vR 19), some (vR 8), none, none] [] μ1 (fun rr μ' => Wp 30 16 [some (vR 12), some (vR 8)] (rr.toList ++ []) μ' R) from ?_)
  refine s22_19 hc1 (by rw [f1 19 (by decide) (by decide) (by decide) (by decide) (by decide)]; exact hw1) (fun μ2 f2 a2 _ => ?_)
  have hc2 := hc1.fr (f2 8 (by decide) (by decide) (by decide) (by decide) (by decide)) (f2 9 (by decide) (by decide) (by decide) (by decide) (by decide)) (f2 10 (by decide) (by decide) (by decide) (by decide) (by decide)) (f2 11 (by decide) (by decide) (by decide) (by decide) (by decide))
  have b1 : ∀ x, 0 ≤ x → x < hN G → PrC13 G μ2 x := fun x h1 h2 => by
    unfold PrC13
    rw [f2 14 (by decide) (by decide) (by decide) (by decide) (by decide), f2 15 (by decide) (by decide) (by decide) (by decide) (by decide), f2 16 (by decide) (by decide) (by decide) (by decide) (by decide), f2 17 (by decide) (by decide) (by decide) (by decide) (by decide)]
    exact a1 x h1 h2
  refine seg 6 (show Wp 13 0 [some (vR 25), some (vR 8), some (vR 13), none, none] [] μ2 (fun rr μ' => Wp 30 28 [some (vR 12), some (vR 8)] (rr.toList ++ []) μ' R) from ?_)
  refine s13 hc2 b1 (fun μ3 f3 a3 => ?_)
  have hc3 := hc2.fr (f3 8 (by decide) (by decide)) (f3 9 (by decide) (by decide)) (f3 10 (by decide) (by decide)) (f3 11 (by decide) (by decide))
  have b2 : ∀ x, 0 ≤ x → x < hN G → PrC13 G μ3 x := fun x h1 h2 => by
    unfold PrC13
    rw [f3 14 (by decide) (by decide), f3 15 (by decide) (by decide), f3 16 (by decide) (by decide), f3 17 (by decide) (by decide)]
    exact b1 x h1 h2
  refine seg 6 (show Wp 8 0 [some (vR 28), some (vR 8), some (vR 13), none, none, none, none, none, none] [] μ3 (fun rr μ' => Wp 30 40 [some (vR 12), some (vR 8)] (rr.toList ++ []) μ' R) from ?_)
  refine s8 hc3 b2 (fun x k h1 h2 h3 h4 h5 => by rw [f3 15 (by decide) (by decide), f2 15 (by decide) (by decide) (by decide) (by decide) (by decide)]; exact j1 x k h1 h2 h3 h4 h5) (fun μ4 f4 a4 => ?_)
  have hc4 := hc3.fr (f4 8 (by decide)) (f4 9 (by decide)) (f4 10 (by decide)) (f4 11 (by decide))
  refine seg 1 (show R none μ4 from ?_)
  refine hk μ4 (fun q hq => ?_) ⟨hc4, fun x h1 h2 => ⟨?_, ?_, fun k h3 h4 => ?_, fun h3 k h4 => a4 x h1 h2 h3 k h4⟩⟩
  · rw [f4 q (by omega), f3 q (by omega) (by omega), f2 q (by omega) (by omega) (by omega) (by omega) (by omega), f1 q (by omega) (by omega) (by omega) (by omega) (by omega)]
  · unfold PrC13
    rw [f4 14 (by decide), f4 15 (by decide), f4 16 (by decide), f4 17 (by decide)]
    exact b2 x h1 h2
  · unfold PrC19
    rw [f4 20 (by decide), f4 21 (by decide), f4 22 (by decide), f4 23 (by decide), f3 20 (by decide) (by decide), f3 21 (by decide) (by decide), f3 22 (by decide) (by decide), f3 23 (by decide) (by decide)]
    exact a2 x h1 h2
  · rw [f4 26 (by decide), f4 27 (by decide)]
    exact a3 x k h1 h2 h3 h4
theorem s31 {G : Hi} {R : Po} {μ : Mu} {w r k : Int} (hg : PG G μ) (hr : 0 ≤ r ∧ r < hN G) (hk8 : 0 ≤ k ∧ k < 8) (hw : w = 0 ∨ w = 1) (h : R (some (vI (pr G r w k))) μ) : Wp 31 0 [some (vR 12), some (vI w), some (vI r), some (vI k)] [] μ R := by
  have hn := hg.1.1.n
  have hI := (hg.2 r hr.1 hr.2).1
  have hJ := (hg.2 r hr.1 hr.2).2.1
  refine seg 2 (show (¬ (w = 0) → Wp 31 16 [some (vR 12), some (vI w), some (vI r), some (vI k)] [] μ R) ∧ (w = 0 → Wp 31 4 [some (vR 12), some (vI w), some (vI r), some (vI k)] [] μ R) from ⟨fun c1 => ?_, fun c1 => ?_⟩)
  ·
    refine seg 5 (show Wp 19 0 [some (vR 19), some (vI r), some (vI k)] [] μ (fun rr μ' => Wp 31 25 [some (vR 12), some (vI w), some (vI r), some (vI k)] (rr.toList ++ []) μ' R) from ?_)
    refine p19w hJ (by omega) ?_
    refine seg 1 (show R (some (vI (pr G r 1 k))) μ from ?_)
    first | (obtain rfl : w = 0 := (by omega); exact h) | (obtain rfl : w = 1 := (by omega); exact h)
  ·
    refine seg 5 (show Wp 19 0 [some (vR 13), some (vI r), some (vI k)] [] μ (fun rr μ' => Wp 31 13 [some (vR 12), some (vI w), some (vI r), some (vI k)] (rr.toList ++ []) μ' R) from ?_)
    refine p19v hI (by omega) ?_
    refine seg 2 (show R (some (vI (pr G r 0 k))) μ from ?_)
    first | (obtain rfl : w = 0 := (by omega); exact h) | (obtain rfl : w = 1 := (by omega); exact h)
theorem s32 {G : Hi} {R : Po} {μ : Mu} {w r : Int} (hg : PG G μ) (hr : 0 ≤ r ∧ r < hN G) (hw : w = 0 ∨ w = 1) (h : R (some (vI (cmA G r w))) μ) : Wp 32 0 [some (vR 12), some (vI w), some (vI r)] [] μ R := by
  have hn := hg.1.1.n
  have hI := (hg.2 r hr.1 hr.2).1
  have hJ := (hg.2 r hr.1 hr.2).2.1
  refine seg 2 (show (¬ (w = 0) → Wp 32 15 [some (vR 12), some (vI w), some (vI r)] [] μ R) ∧ (w = 0 → Wp 32 4 [some (vR 12), some (vI w), some (vI r)] [] μ R) from ⟨fun c1 => ?_, fun c1 => ?_⟩)
  ·
    refine seg 4 (show Wp 21 0 [some (vR 19), some (vI r)] [] μ (fun rr μ' => Wp 32 23 [some (vR 12), some (vI w), some (vI r)] (rr.toList ++ []) μ' R) from ?_)
    refine s21v_19 (by omega) ?_
    refine seg 1 (show R (some (vI (μ 23 r))) μ from ?_)
    first | (obtain rfl : w = 0 := (by omega); rw [hI.2.2]; exact h) | (obtain rfl : w = 1 := (by omega); rw [hJ.2.2]; exact h)
  ·
    refine seg 4 (show Wp 21 0 [some (vR 13), some (vI r)] [] μ (fun rr μ' => Wp 32 12 [some (vR 12), some (vI w), some (vI r)] (rr.toList ++ []) μ' R) from ?_)
    refine s21v_13 (by omega) ?_
    refine seg 2 (show R (some (vI (μ 17 r))) μ from ?_)
    first | (obtain rfl : w = 0 := (by omega); rw [hI.2.2]; exact h) | (obtain rfl : w = 1 := (by omega); rw [hJ.2.2]; exact h)
theorem s34_30 {G : Hi} {s : Se} {R : Po} {μ : Mu} {rule r k : Int} (hg : PG G μ) (hs : SeC s (μ 30)) (hok : SeOK s) (hr : 0 ≤ r ∧ r < hN G) (hk8 : 0 ≤ k ∧ k < 8) (hu : 0 ≤ rule ∧ rule < 4) (hk : ∀ v, SB G s rule r k v → R (some (vI v)) μ) : Wp 34 0 [some (vR 12), some (vI rule), some (vI r), some (vI k), some (vR 30)] [] μ R := by
  have hn := hg.1.1.n
  have hI := (hg.2 r hr.1 hr.2).1
  have hJ := (hg.2 r hr.1 hr.2).2.1
  have hM := (hg.2 r hr.1 hr.2).2.2.1 k hk8.1 hk8.2
  have hM1 : μ 26 (r * 8 + k) = (mv G r k).1 := congrArg Prod.fst hM
  have hM2 : μ 27 (r * 8 + k) = (mv G r k).2 := congrArg Prod.snd hM
  have hok2 := hok.2.1
  refine seg 2 (show (∀ j : Nat, j < 4 → rule = 0 + (j : Int) → Wp 34 ([108, 32, 42, 52, 84].getD (1 + j) 0) [some (vR 12), some (vI rule), some (vI r), some (vI k), some (vR 30)] [] μ R) ∧ (rule < 0 ∨ 3 < rule → Wp 34 108 [some (vR 12), some (vI rule), some (vI r), some (vI k), some (vR 30)] [] μ R) from ⟨fun j hj c1 => ?_, fun c1 => ?_⟩)
  ·
    rcases (show j = 0 ∨ j = 1 ∨ j = 2 ∨ j = 3 by omega) with rfl | rfl | rfl | rfl
    ·
      refine seg 5 (show Wp 19 0 [some (vR 13), some (vI r), some (vI k)] [] μ (fun rr μ' => Wp 34 41 [some (vR 12), some (vI rule), some (vI r), some (vI k), some (vR 30)] (rr.toList ++ []) μ' R) from ?_)
      refine p19v hI (by omega) ?_
      refine seg 1 (show R (some (vI (pr G r 0 k))) μ from ?_)
      refine hk _ ⟨fun z => ?_, fun z => ?_, fun z => ?_, fun z hz => ?_⟩ <;> first
      | (exfalso; omega)
      | rfl
      | (unfold mvB; rw [if_pos (by rw [← hs.1, ← hM1]; assumption), hM2])
      | (unfold mvB; rw [if_neg (by rw [← hs.1, ← hM1]; assumption)])
      | (rw [if_pos (by rw [← hs.2.1]; assumption), ← (hg.2 r hr.1 hr.2).2.2.2 hz k.toNat (by omega), Int.toNat_of_nonneg hk8.1])
      | (rw [if_neg (by rw [← hs.2.1]; assumption)])
    ·
      refine seg 5 (show Wp 19 0 [some (vR 19), some (vI r), some (vI k)] [] μ (fun rr μ' => Wp 34 51 [some (vR 12), some (vI rule), some (vI r), some (vI k), some (vR 30)] (rr.toList ++ []) μ' R) from ?_)
      refine p19w hJ (by omega) ?_
      refine seg 1 (show R (some (vI (pr G r 1 k))) μ from ?_)
      refine hk _ ⟨fun z => ?_, fun z => ?_, fun z => ?_, fun z hz => ?_⟩ <;> first
      | (exfalso; omega)
      | rfl
      | (unfold mvB; rw [if_pos (by rw [← hs.1, ← hM1]; assumption), hM2])
      | (unfold mvB; rw [if_neg (by rw [← hs.1, ← hM1]; assumption)])
      | (rw [if_pos (by rw [← hs.2.1]; assumption), ← (hg.2 r hr.1 hr.2).2.2.2 hz k.toNat (by omega), Int.toNat_of_nonneg hk8.1])
      | (rw [if_neg (by rw [← hs.2.1]; assumption)])
    ·
      refine seg 6 (show Wp 11 0 [some (vR 25), some (vI r), some (vI k)] [] μ (fun rr μ' => Wp 34 63 [some (vR 12), some (vI rule), some (vI r), some (vI k), some (vR 30)] (rr.toList ++ [vR 30]) μ' R) from ?_)
      refine s11v_25 (by omega) ?_
      refine seg 1 (show Wp 62 0 [some (vR 30), some (vI (μ 26 (r * 8 + k)))] [] μ (fun rr μ' => Wp 34 66 [some (vR 12), some (vI rule), some (vI r), some (vI k), some (vR 30)] (rr.toList ++ []) μ' R) from ?_)
      refine s62_30 (fun b2 => ?_) (fun b2 => ?_)
      ·
        refine seg 1 (show (1 = 0 → Wp 34 81 [some (vR 12), some (vI rule), some (vI r), some (vI k), some (vR 30)] [] μ R) ∧ (¬ (1 = 0) → Wp 34 69 [some (vR 12), some (vI rule), some (vI r), some (vI k), some (vR 30)] [] μ R) from ⟨fun z => absurd z (by decide), fun _ => ?_⟩)
        refine seg 5 (show Wp 12 0 [some (vR 25), some (vI r), some (vI k)] [] μ (fun rr μ' => Wp 34 78 [some (vR 12), some (vI rule), some (vI r), some (vI k), some (vR 30)] (rr.toList ++ []) μ' R) from ?_)
        refine s12v_25 (by omega) ?_
        refine seg 2 (show R (some (vI (μ 27 (r * 8 + k)))) μ from ?_)
        refine hk _ ⟨fun z => ?_, fun z => ?_, fun z => ?_, fun z hz => ?_⟩ <;> first
        | (exfalso; omega)
        | rfl
        | (unfold mvB; rw [if_pos (by rw [← hs.1, ← hM1]; assumption), hM2])
        | (unfold mvB; rw [if_neg (by rw [← hs.1, ← hM1]; assumption)])
        | (rw [if_pos (by rw [← hs.2.1]; assumption), ← (hg.2 r hr.1 hr.2).2.2.2 hz k.toNat (by omega), Int.toNat_of_nonneg hk8.1])
        | (rw [if_neg (by rw [← hs.2.1]; assumption)])
      ·
        refine seg 1 (show (0 = 0 → Wp 34 81 [some (vR 12), some (vI rule), some (vI r), some (vI k), some (vR 30)] [] μ R) ∧ (¬ (0 = 0) → Wp 34 69 [some (vR 12), some (vI rule), some (vI r), some (vI k), some (vR 30)] [] μ R) from ⟨fun _ => ?_, fun z => absurd z (by decide)⟩)
        refine seg 2 (show R (some (vI (-9))) μ from ?_)
        refine hk _ ⟨fun z => ?_, fun z => ?_, fun z => ?_, fun z hz => ?_⟩ <;> first
        | (exfalso; omega)
        | rfl
        | (unfold mvB; rw [if_pos (by rw [← hs.1, ← hM1]; assumption), hM2])
        | (unfold mvB; rw [if_neg (by rw [← hs.1, ← hM1]; assumption)])
        | (rw [if_pos (by rw [← hs.2.1]; assumption), ← (hg.2 r hr.1 hr.2).2.2.2 hz k.toNat (by omega), Int.toNat_of_nonneg hk8.1])
        | (rw [if_neg (by rw [← hs.2.1]; assumption)])
    ·
      refine seg 3 (show Wp 64 0 [some (vR 30), some (vI r)] [] μ (fun rr μ' => Wp 34 90 [some (vR 12), some (vI rule), some (vI r), some (vI k), some (vR 30)] (rr.toList ++ []) μ' R) from ?_)
      refine s64_30 (by omega) (by rw [hs.2.1]; exact hok2.1) (fun b3 => ?_) (fun b3 => ?_)
      ·
        refine seg 1 (show (1 = 0 → Wp 34 105 [some (vR 12), some (vI rule), some (vI r), some (vI k), some (vR 30)] [] μ R) ∧ (¬ (1 = 0) → Wp 34 93 [some (vR 12), some (vI rule), some (vI r), some (vI k), some (vR 30)] [] μ R) from ⟨fun z => absurd z (by decide), fun _ => ?_⟩)
        refine seg 5 (show Wp 7 0 [some (vR 28), some (vI r), some (vI k)] [] μ (fun rr μ' => Wp 34 102 [some (vR 12), some (vI rule), some (vI r), some (vI k), some (vR 30)] (rr.toList ++ []) μ' R) from ?_)
        refine s7v_28 (by omega) ?_
        refine seg 2 (show R (some (vI (μ 29 (r * 8 + k)))) μ from ?_)
        refine hk _ ⟨fun z => ?_, fun z => ?_, fun z => ?_, fun z hz => ?_⟩ <;> first
        | (exfalso; omega)
        | rfl
        | (unfold mvB; rw [if_pos (by rw [← hs.1, ← hM1]; assumption), hM2])
        | (unfold mvB; rw [if_neg (by rw [← hs.1, ← hM1]; assumption)])
        | (rw [if_pos (by rw [← hs.2.1]; assumption), ← (hg.2 r hr.1 hr.2).2.2.2 hz k.toNat (by omega), Int.toNat_of_nonneg hk8.1])
        | (rw [if_neg (by rw [← hs.2.1]; assumption)])
      ·
        refine seg 1 (show (0 = 0 → Wp 34 105 [some (vR 12), some (vI rule), some (vI r), some (vI k), some (vR 30)] [] μ R) ∧ (¬ (0 = 0) → Wp 34 93 [some (vR 12), some (vI rule), some (vI r), some (vI k), some (vR 30)] [] μ R) from ⟨fun _ => ?_, fun z => absurd z (by decide)⟩)
        refine seg 2 (show R (some (vI (-9))) μ from ?_)
        refine hk _ ⟨fun z => ?_, fun z => ?_, fun z => ?_, fun z hz => ?_⟩ <;> first
        | (exfalso; omega)
        | rfl
        | (unfold mvB; rw [if_pos (by rw [← hs.1, ← hM1]; assumption), hM2])
        | (unfold mvB; rw [if_neg (by rw [← hs.1, ← hM1]; assumption)])
        | (rw [if_pos (by rw [← hs.2.1]; assumption), ← (hg.2 r hr.1 hr.2).2.2.2 hz k.toNat (by omega), Int.toNat_of_nonneg hk8.1])
        | (rw [if_neg (by rw [← hs.2.1]; assumption)])
  ·
    refine seg 2 (show R (some (vI (-9))) μ from ?_)
    refine hk _ ⟨fun z => ?_, fun z => ?_, fun z => ?_, fun z hz => ?_⟩ <;> first
    | (exfalso; omega)
    | rfl
    | (unfold mvB; rw [if_pos (by rw [← hs.1, ← hM1]; assumption), hM2])
    | (unfold mvB; rw [if_neg (by rw [← hs.1, ← hM1]; assumption)])
    | (rw [if_pos (by rw [← hs.2.1]; assumption), ← (hg.2 r hr.1 hr.2).2.2.2 hz k.toNat (by omega), Int.toNat_of_nonneg hk8.1])
    | (rw [if_neg (by rw [← hs.2.1]; assumption)])
theorem s33_30 {G : Hi} {s : Se} {R : Po} {μ : Mu} {rule r k : Int} (hg : PG G μ) (hs : SeC s (μ 30)) (hok : SeOK s) (hr : 0 ≤ r ∧ r < hN G) (hk8 : 0 ≤ k ∧ k < 8) (hu : 0 ≤ rule ∧ rule < 4) (h : R (some (vI (gv G s rule r k))) μ) : Wp 33 0 [some (vR 12), some (vI rule), some (vI r), some (vI k), some (vR 30), none, none] [] μ R := by
  have hn := hg.1.1.n
  have hI := (hg.2 r hr.1 hr.2).1
  have hJ := (hg.2 r hr.1 hr.2).2.1
  have q0 : PaOK r (hP G r 0) := hg.1.1.p hr (by decide)
  have q1 : PaOK r (hP G r 1) := hg.1.1.p hr (by decide)
  unfold PaOK at q0 q1
  have w0 := fun v => (fun h : SB G s rule r k v => h)
  refine seg 3 (show (¬ (rule = 1) → Wp 33 16 [some (vR 12), some (vI rule), some (vI r), some (vI k), some (vR 30), none, none] [] μ R) ∧ (rule = 1 → Wp 33 5 [some (vR 12), some (vI rule), some (vI r), some (vI k), some (vR 30), none, none] [] μ R) from ⟨fun c1 => ?_, fun c1 => ?_⟩)
  ·
    refine seg 4 (show Wp 18 0 [some (vR 13), some (vI r)] [] μ (fun rr μ' => Wp 33 24 [some (vR 12), some (vI rule), some (vI r), some (vI k), some (vR 30), none, none] (rr.toList ++ []) μ' R) from ?_)
    refine p18v hI (by omega) ?_
    refine seg 7 (show Wp 34 0 [some (vR 12), some (vI rule), some (vI r), some (vI k), some (vR 30)] [] μ (fun rr μ' => Wp 33 35 [some (vR 12), some (vI rule), some (vI r), some (vI k), some (vR 30), some (vI (hP G r 0)), none] (rr.toList ++ []) μ' R) from ?_)
    refine s34_30 hg hs hok hr hk8 hu (fun v hv => ?_)
    refine seg 4 (show (hP G r 0 = -9 → Wp 33 51 [some (vR 12), some (vI rule), some (vI r), some (vI k), some (vR 30), some (vI (hP G r 0)), some (vI v)] [] μ R) ∧ (¬ (hP G r 0 = -9) → Wp 33 44 [some (vR 12), some (vI rule), some (vI r), some (vI k), some (vR 30), some (vI (hP G r 0)), some (vI v)] [] μ R) from ⟨fun c2 => ?_, fun c2 => ?_⟩)
    ·
      refine seg 3 (show R (some (vI (-9))) μ from ?_)
      have e := gv_sb (par := if rule = 1 then hP G r 1 else hP G r 0) hg.1.1 hr hu hv (by by_cases hq : rule = 1 <;> simp [hq])
      first | rw [if_pos (by assumption : rule = 1)] at e | rw [if_neg (by assumption : ¬ rule = 1)] at e
      first | rw [if_pos (by omega)] at e | rw [if_neg (by omega)] at e
      rw [← e]; exact h
    ·
      refine seg 3 (show (¬ (v = -9) → Wp 33 56 [some (vR 12), some (vI rule), some (vI r), some (vI k), some (vR 30), some (vI (hP G r 0)), some (vI v)] [] μ R) ∧ (v = -9 → Wp 33 51 [some (vR 12), some (vI rule), some (vI r), some (vI k), some (vR 30), some (vI (hP G r 0)), some (vI v)] [] μ R) from ⟨fun c3 => ?_, fun c3 => ?_⟩)
      ·
        refine seg 3 (show Wp 114 0 [some (vI (hP G r 0)), some (vI v)] [] μ (fun rr μ' => Wp 33 63 [some (vR 12), some (vI rule), some (vI r), some (vI k), some (vR 30), some (vI (hP G r 0)), some (vI v)] (rr.toList ++ []) μ' R) from ?_)
        refine s114 (by have := sb_rg hg.1.1 hr hu hv (by omega); omega) ?_
        refine seg 1 (show R (some (vI ((hP G r 0) * 8 + v))) μ from ?_)
        have e := gv_sb (par := if rule = 1 then hP G r 1 else hP G r 0) hg.1.1 hr hu hv (by by_cases hq : rule = 1 <;> simp [hq])
        first | rw [if_pos (by assumption : rule = 1)] at e | rw [if_neg (by assumption : ¬ rule = 1)] at e
        first | rw [if_pos (by omega)] at e | rw [if_neg (by omega)] at e
        rw [← e]; exact h
      ·
        refine seg 3 (show R (some (vI (-9))) μ from ?_)
        have e := gv_sb (par := if rule = 1 then hP G r 1 else hP G r 0) hg.1.1 hr hu hv (by by_cases hq : rule = 1 <;> simp [hq])
        first | rw [if_pos (by assumption : rule = 1)] at e | rw [if_neg (by assumption : ¬ rule = 1)] at e
        first | rw [if_pos (by omega)] at e | rw [if_neg (by omega)] at e
        rw [← e]; exact h
  ·
    refine seg 4 (show Wp 18 0 [some (vR 19), some (vI r)] [] μ (fun rr μ' => Wp 33 13 [some (vR 12), some (vI rule), some (vI r), some (vI k), some (vR 30), none, none] (rr.toList ++ []) μ' R) from ?_)
    refine p18w hJ (by omega) ?_
    refine seg 8 (show Wp 34 0 [some (vR 12), some (vI rule), some (vI r), some (vI k), some (vR 30)] [] μ (fun rr μ' => Wp 33 35 [some (vR 12), some (vI rule), some (vI r), some (vI k), some (vR 30), some (vI (hP G r 1)), none] (rr.toList ++ []) μ' R) from ?_)
    refine s34_30 hg hs hok hr hk8 hu (fun v hv => ?_)
    refine seg 4 (show (hP G r 1 = -9 → Wp 33 51 [some (vR 12), some (vI rule), some (vI r), some (vI k), some (vR 30), some (vI (hP G r 1)), some (vI v)] [] μ R) ∧ (¬ (hP G r 1 = -9) → Wp 33 44 [some (vR 12), some (vI rule), some (vI r), some (vI k), some (vR 30), some (vI (hP G r 1)), some (vI v)] [] μ R) from ⟨fun c4 => ?_, fun c4 => ?_⟩)
    ·
      refine seg 3 (show R (some (vI (-9))) μ from ?_)
      have e := gv_sb (par := if rule = 1 then hP G r 1 else hP G r 0) hg.1.1 hr hu hv (by by_cases hq : rule = 1 <;> simp [hq])
      first | rw [if_pos (by assumption : rule = 1)] at e | rw [if_neg (by assumption : ¬ rule = 1)] at e
      first | rw [if_pos (by omega)] at e | rw [if_neg (by omega)] at e
      rw [← e]; exact h
    ·
      refine seg 3 (show (¬ (v = -9) → Wp 33 56 [some (vR 12), some (vI rule), some (vI r), some (vI k), some (vR 30), some (vI (hP G r 1)), some (vI v)] [] μ R) ∧ (v = -9 → Wp 33 51 [some (vR 12), some (vI rule), some (vI r), some (vI k), some (vR 30), some (vI (hP G r 1)), some (vI v)] [] μ R) from ⟨fun c5 => ?_, fun c5 => ?_⟩)
      ·
        refine seg 3 (show Wp 114 0 [some (vI (hP G r 1)), some (vI v)] [] μ (fun rr μ' => Wp 33 63 [some (vR 12), some (vI rule), some (vI r), some (vI k), some (vR 30), some (vI (hP G r 1)), some (vI v)] (rr.toList ++ []) μ' R) from ?_)
        refine s114 (by have := sb_rg hg.1.1 hr hu hv (by omega); omega) ?_
        refine seg 1 (show R (some (vI ((hP G r 1) * 8 + v))) μ from ?_)
        have e := gv_sb (par := if rule = 1 then hP G r 1 else hP G r 0) hg.1.1 hr hu hv (by by_cases hq : rule = 1 <;> simp [hq])
        first | rw [if_pos (by assumption : rule = 1)] at e | rw [if_neg (by assumption : ¬ rule = 1)] at e
        first | rw [if_pos (by omega)] at e | rw [if_neg (by omega)] at e
        rw [← e]; exact h
      ·
        refine seg 3 (show R (some (vI (-9))) μ from ?_)
        have e := gv_sb (par := if rule = 1 then hP G r 1 else hP G r 0) hg.1.1 hr hu hv (by by_cases hq : rule = 1 <;> simp [hq])
        first | rw [if_pos (by assumption : rule = 1)] at e | rw [if_neg (by assumption : ¬ rule = 1)] at e
        first | rw [if_pos (by omega)] at e | rw [if_neg (by omega)] at e
        rw [← e]; exact h
theorem s34_31 {G : Hi} {s : Se} {R : Po} {μ : Mu} {rule r k : Int} (hg : PG G μ) (hs : SeC s (μ 31)) (hok : SeOK s) (hr : 0 ≤ r ∧ r < hN G) (hk8 : 0 ≤ k ∧ k < 8) (hu : 0 ≤ rule ∧ rule < 4) (hk : ∀ v, SB G s rule r k v → R (some (vI v)) μ) : Wp 34 0 [some (vR 12), some (vI rule), some (vI r), some (vI k), some (vR 31)] [] μ R := by
  have hn := hg.1.1.n
  have hI := (hg.2 r hr.1 hr.2).1
  have hJ := (hg.2 r hr.1 hr.2).2.1
  have hM := (hg.2 r hr.1 hr.2).2.2.1 k hk8.1 hk8.2
  have hM1 : μ 26 (r * 8 + k) = (mv G r k).1 := congrArg Prod.fst hM
  have hM2 : μ 27 (r * 8 + k) = (mv G r k).2 := congrArg Prod.snd hM
  have hok2 := hok.2.1
  refine seg 2 (show (∀ j : Nat, j < 4 → rule = 0 + (j : Int) → Wp 34 ([108, 32, 42, 52, 84].getD (1 + j) 0) [some (vR 12), some (vI rule), some (vI r), some (vI k), some (vR 31)] [] μ R) ∧ (rule < 0 ∨ 3 < rule → Wp 34 108 [some (vR 12), some (vI rule), some (vI r), some (vI k), some (vR 31)] [] μ R) from ⟨fun j hj c1 => ?_, fun c1 => ?_⟩)
  ·
    rcases (show j = 0 ∨ j = 1 ∨ j = 2 ∨ j = 3 by omega) with rfl | rfl | rfl | rfl
    ·
      refine seg 5 (show Wp 19 0 [some (vR 13), some (vI r), some (vI k)] [] μ (fun rr μ' => Wp 34 41 [some (vR 12), some (vI rule), some (vI r), some (vI k), some (vR 31)] (rr.toList ++ []) μ' R) from ?_)
      refine p19v hI (by omega) ?_
      refine seg 1 (show R (some (vI (pr G r 0 k))) μ from ?_)
      refine hk _ ⟨fun z => ?_, fun z => ?_, fun z => ?_, fun z hz => ?_⟩ <;> first
      | (exfalso; omega)
      | rfl
      | (unfold mvB; rw [if_pos (by rw [← hs.1, ← hM1]; assumption), hM2])
      | (unfold mvB; rw [if_neg (by rw [← hs.1, ← hM1]; assumption)])
      | (rw [if_pos (by rw [← hs.2.1]; assumption), ← (hg.2 r hr.1 hr.2).2.2.2 hz k.toNat (by omega), Int.toNat_of_nonneg hk8.1])
      | (rw [if_neg (by rw [← hs.2.1]; assumption)])
    ·
      refine seg 5 (show Wp 19 0 [some (vR 19), some (vI r), some (vI k)] [] μ (fun rr μ' => Wp 34 51 [some (vR 12), some (vI rule), some (vI r), some (vI k), some (vR 31)] (rr.toList ++ []) μ' R) from ?_)
      refine p19w hJ (by omega) ?_
      refine seg 1 (show R (some (vI (pr G r 1 k))) μ from ?_)
      refine hk _ ⟨fun z => ?_, fun z => ?_, fun z => ?_, fun z hz => ?_⟩ <;> first
      | (exfalso; omega)
      | rfl
      | (unfold mvB; rw [if_pos (by rw [← hs.1, ← hM1]; assumption), hM2])
      | (unfold mvB; rw [if_neg (by rw [← hs.1, ← hM1]; assumption)])
      | (rw [if_pos (by rw [← hs.2.1]; assumption), ← (hg.2 r hr.1 hr.2).2.2.2 hz k.toNat (by omega), Int.toNat_of_nonneg hk8.1])
      | (rw [if_neg (by rw [← hs.2.1]; assumption)])
    ·
      refine seg 6 (show Wp 11 0 [some (vR 25), some (vI r), some (vI k)] [] μ (fun rr μ' => Wp 34 63 [some (vR 12), some (vI rule), some (vI r), some (vI k), some (vR 31)] (rr.toList ++ [vR 31]) μ' R) from ?_)
      refine s11v_25 (by omega) ?_
      refine seg 1 (show Wp 62 0 [some (vR 31), some (vI (μ 26 (r * 8 + k)))] [] μ (fun rr μ' => Wp 34 66 [some (vR 12), some (vI rule), some (vI r), some (vI k), some (vR 31)] (rr.toList ++ []) μ' R) from ?_)
      refine s62_31 (fun b2 => ?_) (fun b2 => ?_)
      ·
        refine seg 1 (show (1 = 0 → Wp 34 81 [some (vR 12), some (vI rule), some (vI r), some (vI k), some (vR 31)] [] μ R) ∧ (¬ (1 = 0) → Wp 34 69 [some (vR 12), some (vI rule), some (vI r), some (vI k), some (vR 31)] [] μ R) from ⟨fun z => absurd z (by decide), fun _ => ?_⟩)
        refine seg 5 (show Wp 12 0 [some (vR 25), some (vI r), some (vI k)] [] μ (fun rr μ' => Wp 34 78 [some (vR 12), some (vI rule), some (vI r), some (vI k), some (vR 31)] (rr.toList ++ []) μ' R) from ?_)
        refine s12v_25 (by omega) ?_
        refine seg 2 (show R (some (vI (μ 27 (r * 8 + k)))) μ from ?_)
        refine hk _ ⟨fun z => ?_, fun z => ?_, fun z => ?_, fun z hz => ?_⟩ <;> first
        | (exfalso; omega)
        | rfl
        | (unfold mvB; rw [if_pos (by rw [← hs.1, ← hM1]; assumption), hM2])
        | (unfold mvB; rw [if_neg (by rw [← hs.1, ← hM1]; assumption)])
        | (rw [if_pos (by rw [← hs.2.1]; assumption), ← (hg.2 r hr.1 hr.2).2.2.2 hz k.toNat (by omega), Int.toNat_of_nonneg hk8.1])
        | (rw [if_neg (by rw [← hs.2.1]; assumption)])
      ·
        refine seg 1 (show (0 = 0 → Wp 34 81 [some (vR 12), some (vI rule), some (vI r), some (vI k), some (vR 31)] [] μ R) ∧ (¬ (0 = 0) → Wp 34 69 [some (vR 12), some (vI rule), some (vI r), some (vI k), some (vR 31)] [] μ R) from ⟨fun _ => ?_, fun z => absurd z (by decide)⟩)
        refine seg 2 (show R (some (vI (-9))) μ from ?_)
        refine hk _ ⟨fun z => ?_, fun z => ?_, fun z => ?_, fun z hz => ?_⟩ <;> first
        | (exfalso; omega)
        | rfl
        | (unfold mvB; rw [if_pos (by rw [← hs.1, ← hM1]; assumption), hM2])
        | (unfold mvB; rw [if_neg (by rw [← hs.1, ← hM1]; assumption)])
        | (rw [if_pos (by rw [← hs.2.1]; assumption), ← (hg.2 r hr.1 hr.2).2.2.2 hz k.toNat (by omega), Int.toNat_of_nonneg hk8.1])
        | (rw [if_neg (by rw [← hs.2.1]; assumption)])
    ·
      refine seg 3 (show Wp 64 0 [some (vR 31), some (vI r)] [] μ (fun rr μ' => Wp 34 90 [some (vR 12), some (vI rule), some (vI r), some (vI k), some (vR 31)] (rr.toList ++ []) μ' R) from ?_)
      refine s64_31 (by omega) (by rw [hs.2.1]; exact hok2.1) (fun b3 => ?_) (fun b3 => ?_)
      ·
        refine seg 1 (show (1 = 0 → Wp 34 105 [some (vR 12), some (vI rule), some (vI r), some (vI k), some (vR 31)] [] μ R) ∧ (¬ (1 = 0) → Wp 34 93 [some (vR 12), some (vI rule), some (vI r), some (vI k), some (vR 31)] [] μ R) from ⟨fun z => absurd z (by decide), fun _ => ?_⟩)
        refine seg 5 (show Wp 7 0 [some (vR 28), some (vI r), some (vI k)] [] μ (fun rr μ' => Wp 34 102 [some (vR 12), some (vI rule), some (vI r), some (vI k), some (vR 31)] (rr.toList ++ []) μ' R) from ?_)
        refine s7v_28 (by omega) ?_
        refine seg 2 (show R (some (vI (μ 29 (r * 8 + k)))) μ from ?_)
        refine hk _ ⟨fun z => ?_, fun z => ?_, fun z => ?_, fun z hz => ?_⟩ <;> first
        | (exfalso; omega)
        | rfl
        | (unfold mvB; rw [if_pos (by rw [← hs.1, ← hM1]; assumption), hM2])
        | (unfold mvB; rw [if_neg (by rw [← hs.1, ← hM1]; assumption)])
        | (rw [if_pos (by rw [← hs.2.1]; assumption), ← (hg.2 r hr.1 hr.2).2.2.2 hz k.toNat (by omega), Int.toNat_of_nonneg hk8.1])
        | (rw [if_neg (by rw [← hs.2.1]; assumption)])
      ·
        refine seg 1 (show (0 = 0 → Wp 34 105 [some (vR 12), some (vI rule), some (vI r), some (vI k), some (vR 31)] [] μ R) ∧ (¬ (0 = 0) → Wp 34 93 [some (vR 12), some (vI rule), some (vI r), some (vI k), some (vR 31)] [] μ R) from ⟨fun _ => ?_, fun z => absurd z (by decide)⟩)
        refine seg 2 (show R (some (vI (-9))) μ from ?_)
        refine hk _ ⟨fun z => ?_, fun z => ?_, fun z => ?_, fun z hz => ?_⟩ <;> first
        | (exfalso; omega)
        | rfl
        | (unfold mvB; rw [if_pos (by rw [← hs.1, ← hM1]; assumption), hM2])
        | (unfold mvB; rw [if_neg (by rw [← hs.1, ← hM1]; assumption)])
        | (rw [if_pos (by rw [← hs.2.1]; assumption), ← (hg.2 r hr.1 hr.2).2.2.2 hz k.toNat (by omega), Int.toNat_of_nonneg hk8.1])
        | (rw [if_neg (by rw [← hs.2.1]; assumption)])
  ·
    refine seg 2 (show R (some (vI (-9))) μ from ?_)
    refine hk _ ⟨fun z => ?_, fun z => ?_, fun z => ?_, fun z hz => ?_⟩ <;> first
    | (exfalso; omega)
    | rfl
    | (unfold mvB; rw [if_pos (by rw [← hs.1, ← hM1]; assumption), hM2])
    | (unfold mvB; rw [if_neg (by rw [← hs.1, ← hM1]; assumption)])
    | (rw [if_pos (by rw [← hs.2.1]; assumption), ← (hg.2 r hr.1 hr.2).2.2.2 hz k.toNat (by omega), Int.toNat_of_nonneg hk8.1])
    | (rw [if_neg (by rw [← hs.2.1]; assumption)])
theorem s33_31 {G : Hi} {s : Se} {R : Po} {μ : Mu} {rule r k : Int} (hg : PG G μ) (hs : SeC s (μ 31)) (hok : SeOK s) (hr : 0 ≤ r ∧ r < hN G) (hk8 : 0 ≤ k ∧ k < 8) (hu : 0 ≤ rule ∧ rule < 4) (h : R (some (vI (gv G s rule r k))) μ) : Wp 33 0 [some (vR 12), some (vI rule), some (vI r), some (vI k), some (vR 31), none, none] [] μ R := by
  have hn := hg.1.1.n
  have hI := (hg.2 r hr.1 hr.2).1
  have hJ := (hg.2 r hr.1 hr.2).2.1
  have q0 : PaOK r (hP G r 0) := hg.1.1.p hr (by decide)
  have q1 : PaOK r (hP G r 1) := hg.1.1.p hr (by decide)
  unfold PaOK at q0 q1
  have w0 := fun v => (fun h : SB G s rule r k v => h)
  refine seg 3 (show (¬ (rule = 1) → Wp 33 16 [some (vR 12), some (vI rule), some (vI r), some (vI k), some (vR 31), none, none] [] μ R) ∧ (rule = 1 → Wp 33 5 [some (vR 12), some (vI rule), some (vI r), some (vI k), some (vR 31), none, none] [] μ R) from ⟨fun c1 => ?_, fun c1 => ?_⟩)
  ·
    refine seg 4 (show Wp 18 0 [some (vR 13), some (vI r)] [] μ (fun rr μ' => Wp 33 24 [some (vR 12), some (vI rule), some (vI r), some (vI k), some (vR 31), none, none] (rr.toList ++ []) μ' R) from ?_)
    refine p18v hI (by omega) ?_
    refine seg 7 (show Wp 34 0 [some (vR 12), some (vI rule), some (vI r), some (vI k), some (vR 31)] [] μ (fun rr μ' => Wp 33 35 [some (vR 12), some (vI rule), some (vI r), some (vI k), some (vR 31), some (vI (hP G r 0)), none] (rr.toList ++ []) μ' R) from ?_)
    refine s34_31 hg hs hok hr hk8 hu (fun v hv => ?_)
    refine seg 4 (show (hP G r 0 = -9 → Wp 33 51 [some (vR 12), some (vI rule), some (vI r), some (vI k), some (vR 31), some (vI (hP G r 0)), some (vI v)] [] μ R) ∧ (¬ (hP G r 0 = -9) → Wp 33 44 [some (vR 12), some (vI rule), some (vI r), some (vI k), some (vR 31), some (vI (hP G r 0)), some (vI v)] [] μ R) from ⟨fun c2 => ?_, fun c2 => ?_⟩)
    ·
      refine seg 3 (show R (some (vI (-9))) μ from ?_)
      have e := gv_sb (par := if rule = 1 then hP G r 1 else hP G r 0) hg.1.1 hr hu hv (by by_cases hq : rule = 1 <;> simp [hq])
      first | rw [if_pos (by assumption : rule = 1)] at e | rw [if_neg (by assumption : ¬ rule = 1)] at e
      first | rw [if_pos (by omega)] at e | rw [if_neg (by omega)] at e
      rw [← e]; exact h
    ·
      refine seg 3 (show (¬ (v = -9) → Wp 33 56 [some (vR 12), some (vI rule), some (vI r), some (vI k), some (vR 31), some (vI (hP G r 0)), some (vI v)] [] μ R) ∧ (v = -9 → Wp 33 51 [some (vR 12), some (vI rule), some (vI r), some (vI k), some (vR 31), some (vI (hP G r 0)), some (vI v)] [] μ R) from ⟨fun c3 => ?_, fun c3 => ?_⟩)
      ·
        refine seg 3 (show Wp 114 0 [some (vI (hP G r 0)), some (vI v)] [] μ (fun rr μ' => Wp 33 63 [some (vR 12), some (vI rule), some (vI r), some (vI k), some (vR 31), some (vI (hP G r 0)), some (vI v)] (rr.toList ++ []) μ' R) from ?_)
        refine s114 (by have := sb_rg hg.1.1 hr hu hv (by omega); omega) ?_
        refine seg 1 (show R (some (vI ((hP G r 0) * 8 + v))) μ from ?_)
        have e := gv_sb (par := if rule = 1 then hP G r 1 else hP G r 0) hg.1.1 hr hu hv (by by_cases hq : rule = 1 <;> simp [hq])
        first | rw [if_pos (by assumption : rule = 1)] at e | rw [if_neg (by assumption : ¬ rule = 1)] at e
        first | rw [if_pos (by omega)] at e | rw [if_neg (by omega)] at e
        rw [← e]; exact h
      ·
        refine seg 3 (show R (some (vI (-9))) μ from ?_)
        have e := gv_sb (par := if rule = 1 then hP G r 1 else hP G r 0) hg.1.1 hr hu hv (by by_cases hq : rule = 1 <;> simp [hq])
        first | rw [if_pos (by assumption : rule = 1)] at e | rw [if_neg (by assumption : ¬ rule = 1)] at e
        first | rw [if_pos (by omega)] at e | rw [if_neg (by omega)] at e
        rw [← e]; exact h
  ·
    refine seg 4 (show Wp 18 0 [some (vR 19), some (vI r)] [] μ (fun rr μ' => Wp 33 13 [some (vR 12), some (vI rule), some (vI r), some (vI k), some (vR 31), none, none] (rr.toList ++ []) μ' R) from ?_)
    refine p18w hJ (by omega) ?_
    refine seg 8 (show Wp 34 0 [some (vR 12), some (vI rule), some (vI r), some (vI k), some (vR 31)] [] μ (fun rr μ' => Wp 33 35 [some (vR 12), some (vI rule), some (vI r), some (vI k), some (vR 31), some (vI (hP G r 1)), none] (rr.toList ++ []) μ' R) from ?_)
    refine s34_31 hg hs hok hr hk8 hu (fun v hv => ?_)
    refine seg 4 (show (hP G r 1 = -9 → Wp 33 51 [some (vR 12), some (vI rule), some (vI r), some (vI k), some (vR 31), some (vI (hP G r 1)), some (vI v)] [] μ R) ∧ (¬ (hP G r 1 = -9) → Wp 33 44 [some (vR 12), some (vI rule), some (vI r), some (vI k), some (vR 31), some (vI (hP G r 1)), some (vI v)] [] μ R) from ⟨fun c4 => ?_, fun c4 => ?_⟩)
    ·
      refine seg 3 (show R (some (vI (-9))) μ from ?_)
      have e := gv_sb (par := if rule = 1 then hP G r 1 else hP G r 0) hg.1.1 hr hu hv (by by_cases hq : rule = 1 <;> simp [hq])
      first | rw [if_pos (by assumption : rule = 1)] at e | rw [if_neg (by assumption : ¬ rule = 1)] at e
      first | rw [if_pos (by omega)] at e | rw [if_neg (by omega)] at e
      rw [← e]; exact h
    ·
      refine seg 3 (show (¬ (v = -9) → Wp 33 56 [some (vR 12), some (vI rule), some (vI r), some (vI k), some (vR 31), some (vI (hP G r 1)), some (vI v)] [] μ R) ∧ (v = -9 → Wp 33 51 [some (vR 12), some (vI rule), some (vI r), some (vI k), some (vR 31), some (vI (hP G r 1)), some (vI v)] [] μ R) from ⟨fun c5 => ?_, fun c5 => ?_⟩)
      ·
        refine seg 3 (show Wp 114 0 [some (vI (hP G r 1)), some (vI v)] [] μ (fun rr μ' => Wp 33 63 [some (vR 12), some (vI rule), some (vI r), some (vI k), some (vR 31), some (vI (hP G r 1)), some (vI v)] (rr.toList ++ []) μ' R) from ?_)
        refine s114 (by have := sb_rg hg.1.1 hr hu hv (by omega); omega) ?_
        refine seg 1 (show R (some (vI ((hP G r 1) * 8 + v))) μ from ?_)
        have e := gv_sb (par := if rule = 1 then hP G r 1 else hP G r 0) hg.1.1 hr hu hv (by by_cases hq : rule = 1 <;> simp [hq])
        first | rw [if_pos (by assumption : rule = 1)] at e | rw [if_neg (by assumption : ¬ rule = 1)] at e
        first | rw [if_pos (by omega)] at e | rw [if_neg (by omega)] at e
        rw [← e]; exact h
      ·
        refine seg 3 (show R (some (vI (-9))) μ from ?_)
        have e := gv_sb (par := if rule = 1 then hP G r 1 else hP G r 0) hg.1.1 hr hu hv (by by_cases hq : rule = 1 <;> simp [hq])
        first | rw [if_pos (by assumption : rule = 1)] at e | rw [if_neg (by assumption : ¬ rule = 1)] at e
        first | rw [if_pos (by omega)] at e | rw [if_neg (by omega)] at e
        rw [← e]; exact h
end
section
/-! traces in the class -/
def TrC (G : Hi) (s : Se) (A B C : Int → Int) (r k : Int) : Prop := A (r * 8 + k) = (og G s r k).1 ∧ B (r * 8 + k) = (og G s r k).2 ∧ C (r * 8 + k) = ru G s r k
theorem l86_32 {G : Hi} {s : Se} {R : Po} {r k : Int} {μ0 μ : Mu} (hg : PG G μ) (hs : SeC s (μ 30)) (hok : SeOK s) (hr : 0 ≤ r ∧ r < hN G) (hk8 : 0 ≤ k ∧ k < hS G r) (hpar : ∀ r2 k2, 0 ≤ r2 → r2 < r → 0 ≤ k2 → k2 < hS G r2 → TrC G s (μ0 33) (μ0 34) (μ0 35) r2 k2) (hF : ((∀ q, q ≠ 33 → q ≠ 34 → q ≠ 35 → μ q = μ0 q) ∧ (∀ y, y ≠ r * 8 + k → μ 33 y = μ0 33 y ∧ μ 34 y = μ0 34 y ∧ μ 35 y = μ0 35 y))) (h1 : μ 33 (r * 8 + k) = r * 8 + k) (h2 : μ 34 (r * 8 + k) = 0) (h3 : μ 35 (r * 8 + k) = -9) (hk : ∀ μ2 : Mu, ((∀ q, q ≠ 33 → q ≠ 34 → q ≠ 35 → μ2 q = μ0 q) ∧ (∀ y, y ≠ r * 8 + k → μ2 33 y = μ0 33 y ∧ μ2 34 y = μ0 34 y ∧ μ2 35 y = μ0 35 y)) → TrC G s (μ2 33) (μ2 34) (μ2 35) r k → R none μ2) : ∀ (n : Nat) (j : Int) (o7 : Option PV), 4 - j = n → 0 ≤ j → ru G s r k = ruF G s r k n j → Wp 86 37 [some (vR 32), some (vR 12), some (vR 30), some (vI r), some (vI k), some (vI (r * 8 + k)), some (vI j), o7] [] μ R := by
  have hn := hg.1.1.n
  have hsr := hg.1.1.s hr
  have hok3 := hok.2.2
  intro n
  induction n with
  | zero =>
    intro j o7 hj h0 hu
    refine seg 3 (show (4 ≤ j → Wp 86 127 [some (vR 32), some (vR 12), some (vR 30), some (vI r), some (vI k), some (vI (r * 8 + k)), some (vI j), o7] [] μ R) ∧ (¬ (4 ≤ j) → Wp 86 43 [some (vR 32), some (vR 12), some (vR 30), some (vI r), some (vI k), some (vI (r * 8 + k)), some (vI j), o7] [] μ R) from ⟨fun c1 => ?_, fun c1 => ?_⟩)
    ·
      refine seg 1 (show R none μ from ?_)
      first
      | (exfalso; omega)
      | exact hk μ hF ⟨by rw [h1, og_no hu], by rw [h2, og_no hu], by rw [h3, hu]; rfl⟩
    ·
      refine seg 3 (show Wp 67 0 [some (vR 30), some (vI j)] [] μ (fun rr μ' => Wp 86 49 [some (vR 32), some (vR 12), some (vR 30), some (vI r), some (vI k), some (vI (r * 8 + k)), some (vI j), o7] (rr.toList ++ []) μ' R) from ?_)
      exfalso; omega
  | succ n ih =>
    intro j o7 hj h0 hu
    rw [ruF] at hu
    have gr := gv_rg hg.1.1 (s := s) (rule := j) (k := k) hr
    refine seg 3 (show (4 ≤ j → Wp 86 127 [some (vR 32), some (vR 12), some (vR 30), some (vI r), some (vI k), some (vI (r * 8 + k)), some (vI j), o7] [] μ R) ∧ (¬ (4 ≤ j) → Wp 86 43 [some (vR 32), some (vR 12), some (vR 30), some (vI r), some (vI k), some (vI (r * 8 + k)), some (vI j), o7] [] μ R) from ⟨fun c2 => ?_, fun c2 => ?_⟩)
    ·
      refine seg 1 (show R none μ from ?_)
      first
      | (exfalso; omega)
      | exact hk μ hF ⟨by rw [h1, og_no hu], by rw [h2, og_no hu], by rw [h3, hu]; rfl⟩
    ·
      refine seg 3 (show Wp 67 0 [some (vR 30), some (vI j)] [] μ (fun rr μ' => Wp 86 49 [some (vR 32), some (vR 12), some (vR 30), some (vI r), some (vI k), some (vI (r * 8 + k)), some (vI j), o7] (rr.toList ++ []) μ' R) from ?_)
      refine s67_30 (by omega) (by rw [hs.2.2]; exact hok3.1) (fun b3 => ?_) (fun b3 => ?_)
      ·
        refine seg 1 (show (1 = 0 → Wp 86 65 [some (vR 32), some (vR 12), some (vR 30), some (vI r), some (vI k), some (vI (r * 8 + k)), some (vI j), o7] [] μ R) ∧ (¬ (1 = 0) → Wp 86 52 [some (vR 32), some (vR 12), some (vR 30), some (vI r), some (vI k), some (vI (r * 8 + k)), some (vI j), o7] [] μ R) from ⟨fun z => absurd z (by decide), fun _ => ?_⟩)
        refine seg 6 (show Wp 33 0 [some (vR 12), some (vI j), some (vI r), some (vI k), some (vR 30), none, none] [] μ (fun rr μ' => Wp 86 62 [some (vR 32), some (vR 12), some (vR 30), some (vI r), some (vI k), some (vI (r * 8 + k)), some (vI j), o7] (rr.toList ++ []) μ' R) from ?_)
        refine s33_30 hg hs hok hr (by omega) (by omega) ?_
        refine seg 4 (show (gv G s j r k < 0 → Wp 86 121 [some (vR 32), some (vR 12), some (vR 30), some (vI r), some (vI k), some (vI (r * 8 + k)), some (vI j), some (vI (gv G s j r k))] [] μ R) ∧ (¬ (gv G s j r k < 0) → Wp 86 74 [some (vR 32), some (vR 12), some (vR 30), some (vI r), some (vI k), some (vI (r * 8 + k)), some (vI j), some (vI (gv G s j r k))] [] μ R) from ⟨fun c4 => ?_, fun c4 => ?_⟩)
        ·
          refine seg 2 (show iR (j + 1) ∧ Wp 86 37 [some (vR 32), some (vR 12), some (vR 30), some (vI r), some (vI k), some (vI (r * 8 + k)), some (vI (j + 1)), some (vI (gv G s j r k))] [] μ R from ⟨by omega, ?_⟩)
          rw [if_neg (fun z => by first | exact absurd z.1 (by rw [← hs.2.2]; assumption) | (have := z.2; omega))] at hu
          exact ih (j + 1) _ (by omega) (by omega) hu
        ·
          refine seg 3 (show (64 ≤ gv G s j r k → Wp 86 121 [some (vR 32), some (vR 12), some (vR 30), some (vI r), some (vI k), some (vI (r * 8 + k)), some (vI j), some (vI (gv G s j r k))] [] μ R) ∧ (¬ (64 ≤ gv G s j r k) → Wp 86 81 [some (vR 32), some (vR 12), some (vR 30), some (vI r), some (vI k), some (vI (r * 8 + k)), some (vI j), some (vI (gv G s j r k))] [] μ R) from ⟨fun c5 => ?_, fun c5 => ?_⟩)
          ·
            refine seg 2 (show iR (j + 1) ∧ Wp 86 37 [some (vR 32), some (vR 12), some (vR 30), some (vI r), some (vI k), some (vI (r * 8 + k)), some (vI (j + 1)), some (vI (gv G s j r k))] [] μ R from ⟨by omega, ?_⟩)
            rw [if_neg (fun z => by first | exact absurd z.1 (by rw [← hs.2.2]; assumption) | (have := z.2; omega))] at hu
            exact ih (j + 1) _ (by omega) (by omega) hu
          ·
            refine seg 24 (show (0 ≤ (gv G s j r k) ∧ (gv G s j r k) < 64) ∧ (0 ≤ (r * 8 + k) ∧ (r * 8 + k) < 64) ∧ (0 ≤ (gv G s j r k) ∧ (gv G s j r k) < 64) ∧ iR ((μ 34 (gv G s j r k)) + 1) ∧ (0 ≤ (r * 8 + k) ∧ (r * 8 + k) < 64) ∧ (0 ≤ (r * 8 + k) ∧ (r * 8 + k) < 64) ∧ R none (u2 (u2 (u2 μ 33 (r * 8 + k) (μ 33 (gv G s j r k))) 34 (r * 8 + k) ((μ 34 (gv G s j r k)) + 1)) 35 (r * 8 + k) j) from ⟨by omega, by omega, by omega, by have hpr := hpar (gv G s j r k / 8) (gv G s j r k % 8) (by omega) (by omega) (by omega) (by omega); have e0 := (hF.2 (gv G s j r k) (by omega)).2.1; have eg : gv G s j r k / 8 * 8 + gv G s j r k % 8 = gv G s j r k := (by omega); unfold TrC at hpr; rw [eg] at hpr; have := og_lt hg.1.1 s (r := gv G s j r k / 8) (k := gv G s j r k % 8) (by omega) (by omega); rw [e0, hpr.2.1]; omega, by omega, by omega, ?_⟩)
            rw [if_pos ⟨by rw [← hs.2.2]; assumption, by omega⟩] at hu
            have hpr := hpar (gv G s j r k / 8) (gv G s j r k % 8) (by omega) (by omega) (by omega) (by omega)
            have eg : gv G s j r k / 8 * 8 + gv G s j r k % 8 = gv G s j r k := by omega
            have ne : gv G s j r k ≠ r * 8 + k := by omega
            unfold TrC at hpr
            rw [eg] at hpr
            have e0 := hF.2 _ ne
            have hog : og G s r k = _ := og_in hg.1.1 hr (by omega)
            rw [hu] at hog
            refine hk _ ⟨fun q a1 a2 a3 => by rw [u2_ne a3, u2_ne a2, u2_ne a1]; exact hF.1 q a1 a2 a3, fun y hy => ⟨?_, ?_, ?_⟩⟩ ⟨?_, ?_, ?_⟩
            · rw [u2_ne (by decide), u2_ne (by decide), u2_at, up1_n hy]; exact (hF.2 y hy).1
            · rw [u2_ne (by decide), u2_at, u2_ne (by decide), up1_n hy]; exact (hF.2 y hy).2.1
            · rw [u2_at, u2_ne (by decide), u2_ne (by decide), up1_n hy]; exact (hF.2 y hy).2.2
            · rw [u2_ne (by decide), u2_ne (by decide), u2_at, up1_s, hog, e0.1, hpr.1]
            · rw [u2_ne (by decide), u2_at, up1_s, hog, e0.2.1, hpr.2.1]
            · rw [u2_at, up1_s, hu]
      ·
        refine seg 1 (show (0 = 0 → Wp 86 65 [some (vR 32), some (vR 12), some (vR 30), some (vI r), some (vI k), some (vI (r * 8 + k)), some (vI j), o7] [] μ R) ∧ (¬ (0 = 0) → Wp 86 52 [some (vR 32), some (vR 12), some (vR 30), some (vI r), some (vI k), some (vI (r * 8 + k)), some (vI j), o7] [] μ R) from ⟨fun _ => ?_, fun z => absurd z (by decide)⟩)
        refine seg 4 (show (-9 < 0 → Wp 86 121 [some (vR 32), some (vR 12), some (vR 30), some (vI r), some (vI k), some (vI (r * 8 + k)), some (vI j), some (vI (-9))] [] μ R) ∧ (¬ (-9 < 0) → Wp 86 74 [some (vR 32), some (vR 12), some (vR 30), some (vI r), some (vI k), some (vI (r * 8 + k)), some (vI j), some (vI (-9))] [] μ R) from ⟨fun _ => ?_, fun z => absurd z (by decide)⟩)
        refine seg 2 (show iR (j + 1) ∧ Wp 86 37 [some (vR 32), some (vR 12), some (vR 30), some (vI r), some (vI k), some (vI (r * 8 + k)), some (vI (j + 1)), some (vI (-9))] [] μ R from ⟨by omega, ?_⟩)
        rw [if_neg (fun z => by first | exact absurd z.1 (by rw [← hs.2.2]; assumption) | (have := z.2; omega))] at hu
        exact ih (j + 1) _ (by omega) (by omega) hu
theorem s86_32 {G : Hi} {s : Se} {R : Po} {r k : Int} {μ : Mu} (hg : PG G μ) (hs : SeC s (μ 30)) (hok : SeOK s) (hr : 0 ≤ r ∧ r < hN G) (hk8 : 0 ≤ k ∧ k < hS G r) (hpar : ∀ r2 k2, 0 ≤ r2 → r2 < r → 0 ≤ k2 → k2 < hS G r2 → TrC G s (μ 33) (μ 34) (μ 35) r2 k2) (hk : ∀ μ2 : Mu, ((∀ q, q ≠ 33 → q ≠ 34 → q ≠ 35 → μ2 q = μ q) ∧ (∀ y, y ≠ r * 8 + k → μ2 33 y = μ 33 y ∧ μ2 34 y = μ 34 y ∧ μ2 35 y = μ 35 y)) → TrC G s (μ2 33) (μ2 34) (μ2 35) r k → R none μ2) : Wp 86 0 [some (vR 32), some (vR 12), some (vR 30), some (vI r), some (vI k), none, none, none] [] μ R := by
  have hn := hg.1.1.n
  have hsr := hg.1.1.s hr
  refine seg 3 (show Wp 114 0 [some (vI r), some (vI k)] [] μ (fun rr μ' => Wp 86 6 [some (vR 32), some (vR 12), some (vR 30), some (vI r), some (vI k), none, none, none] (rr.toList ++ []) μ' R) from ?_)
  refine s114 (by omega) ?_
  refine seg 18 (show (0 ≤ (r * 8 + k) ∧ (r * 8 + k) < 64) ∧ (0 ≤ (r * 8 + k) ∧ (r * 8 + k) < 64) ∧ (0 ≤ (r * 8 + k) ∧ (r * 8 + k) < 64) ∧ Wp 86 37 [some (vR 32), some (vR 12), some (vR 30), some (vI r), some (vI k), some (vI (r * 8 + k)), some (vI 0), none] [] (u2 (u2 (u2 μ 33 (r * 8 + k) (r * 8 + k)) 34 (r * 8 + k) 0) 35 (r * 8 + k) (-9)) R from ⟨by omega, by omega, by omega, ?_⟩)
  obtain ⟨μ1, hμ1⟩ : ∃ z, z = u2 (u2 (u2 μ 33 (r * 8 + k) (r * 8 + k)) 34 (r * 8 + k) 0) 35 (r * 8 + k) (-9) := ⟨_, rfl⟩
  rw [← hμ1]
  have e1 : μ1 33 = up1 (μ 33) (r * 8 + k) (r * 8 + k) := by rw [hμ1, u2_ne (by decide), u2_ne (by decide), u2_at]
  have e2 : μ1 34 = up1 (μ 34) (r * 8 + k) 0 := by rw [hμ1, u2_ne (by decide), u2_at, u2_ne (by decide)]
  have e3 : μ1 35 = up1 (μ 35) (r * 8 + k) (-9) := by rw [hμ1, u2_at, u2_ne (by decide), u2_ne (by decide)]
  have e4 : ∀ q, q ≠ 33 → q ≠ 34 → q ≠ 35 → μ1 q = μ q := fun q a1 a2 a3 => by rw [hμ1, u2_ne a3, u2_ne a2, u2_ne a1]
  exact l86_32 (hg.fr (fun q a1 a2 => e4 q (by omega) (by omega) (by omega))) (by rw [e4 30 (by decide) (by decide) (by decide)]; exact hs) hok hr hk8 hpar ⟨e4, fun y hy => by rw [e1, e2, e3, up1_n hy, up1_n hy, up1_n hy]; exact ⟨rfl, rfl, rfl⟩⟩ (by rw [e1, up1_s]) (by rw [e2, up1_s]) (by rw [e3, up1_s]) hk 4 0 _ (by decide) (by decide) rfl
theorem l85a_32 {G : Hi} {s : Se} {R : Po} {μ0 : Mu} (hg0 : PG G μ0) (hs0 : SeC s (μ0 30)) (hok : SeOK s) {r : Int} (hr : 0 ≤ r ∧ r < hN G) (hk : ∀ (μ : Mu) (o5 : Option PV), (∀ q, q ≠ 33 → q ≠ 34 → q ≠ 35 → μ q = μ0 q) → (∀ r2 k2, 0 ≤ r2 → r2 < r + 1 → 0 ≤ k2 → k2 < hS G r2 → TrC G s (μ 33) (μ 34) (μ 35) r2 k2) → Wp 85 52 [some (vR 32), some (vR 8), some (vR 12), some (vR 30), some (vI r), o5] [] μ R) : ∀ (n : Nat) (k : Int) (μ : Mu), hS G r - k = n → 0 ≤ k → (∀ q, q ≠ 33 → q ≠ 34 → q ≠ 35 → μ q = μ0 q) → (∀ r2 k2, 0 ≤ r2 → r2 < r → 0 ≤ k2 → k2 < hS G r2 → TrC G s (μ 33) (μ 34) (μ 35) r2 k2) → (∀ k2, 0 ≤ k2 → k2 < k → TrC G s (μ 33) (μ 34) (μ 35) r k2) → Wp 85 15 [some (vR 32), some (vR 8), some (vR 12), some (vR 30), some (vI r), some (vI k)] [] μ R := by
  intro n
  induction n with
  | zero =>
    intro k μ hm h0 hF hA hB
    have hg := hg0.fr (fun q a1 a2 => hF q (by omega) (by omega) (by omega))
    have hs : SeC s (μ 30) := by rw [hF 30 (by decide) (by decide) (by decide)]; exact hs0
    have hn := hg.1.1.n
    have hc := hg.1
    have hsr := hc.1.s hr
    refine seg 4 (show Wp 46 0 [some (vR 8), some (vI r)] [] μ (fun rr μ' => Wp 85 23 [some (vR 32), some (vR 8), some (vR 12), some (vR 30), some (vI r), some (vI k)] (rr.toList ++ [vI k]) μ' R) from ?_)
    refine g46 hc (by omega) ?_
    refine seg 1 (show (hS G r ≤ k → Wp 85 52 [some (vR 32), some (vR 8), some (vR 12), some (vR 30), some (vI r), some (vI k)] [] μ R) ∧ (¬ (hS G r ≤ k) → Wp 85 26 [some (vR 32), some (vR 8), some (vR 12), some (vR 30), some (vI r), some (vI k)] [] μ R) from ⟨fun c1 => ?_, fun c1 => ?_⟩)
    ·
      first
      | (exfalso; omega)
      | (refine hk μ _ hF (fun r2 k2 a1 a2 a3 a4 => ?_)
         by_cases hq : r2 = r
         · subst hq; exact hB k2 a3 (by omega)
         · exact hA r2 k2 a1 (by omega) a3 a4)
    ·
      refine seg 3 (show Wp 115 0 [some (vI r), some (vI k)] [] μ (fun rr μ' => Wp 85 33 [some (vR 32), some (vR 8), some (vR 12), some (vR 30), some (vI r), some (vI k)] (rr.toList ++ []) μ' R) from ?_)
      exfalso; omega
  | succ n ih =>
    intro k μ hm h0 hF hA hB
    have hg := hg0.fr (fun q a1 a2 => hF q (by omega) (by omega) (by omega))
    have hs : SeC s (μ 30) := by rw [hF 30 (by decide) (by decide) (by decide)]; exact hs0
    have hn := hg.1.1.n
    have hc := hg.1
    have hsr := hc.1.s hr
    refine seg 4 (show Wp 46 0 [some (vR 8), some (vI r)] [] μ (fun rr μ' => Wp 85 23 [some (vR 32), some (vR 8), some (vR 12), some (vR 30), some (vI r), some (vI k)] (rr.toList ++ [vI k]) μ' R) from ?_)
    refine g46 hc (by omega) ?_
    refine seg 1 (show (hS G r ≤ k → Wp 85 52 [some (vR 32), some (vR 8), some (vR 12), some (vR 30), some (vI r), some (vI k)] [] μ R) ∧ (¬ (hS G r ≤ k) → Wp 85 26 [some (vR 32), some (vR 8), some (vR 12), some (vR 30), some (vI r), some (vI k)] [] μ R) from ⟨fun c2 => ?_, fun c2 => ?_⟩)
    ·
      first
      | (exfalso; omega)
      | (refine hk μ _ hF (fun r2 k2 a1 a2 a3 a4 => ?_)
         by_cases hq : r2 = r
         · subst hq; exact hB k2 a3 (by omega)
         · exact hA r2 k2 a1 (by omega) a3 a4)
    ·
      refine seg 3 (show Wp 115 0 [some (vI r), some (vI k)] [] μ (fun rr μ' => Wp 85 33 [some (vR 32), some (vR 8), some (vR 12), some (vR 30), some (vI r), some (vI k)] (rr.toList ++ []) μ' R) from ?_)
      refine s115t (by omega) ?_
      refine seg 1 (show (1 = 0 → Wp 85 46 [some (vR 32), some (vR 8), some (vR 12), some (vR 30), some (vI r), some (vI k)] [] μ R) ∧ (¬ (1 = 0) → Wp 85 36 [some (vR 32), some (vR 8), some (vR 12), some (vR 30), some (vI r), some (vI k)] [] μ R) from ⟨fun z => absurd z (by decide), fun _ => ?_⟩)
      refine seg 6 (show Wp 86 0 [some (vR 32), some (vR 12), some (vR 30), some (vI r), some (vI k), none, none, none] [] μ (fun rr μ' => Wp 85 46 [some (vR 32), some (vR 8), some (vR 12), some (vR 30), some (vI r), some (vI k)] (rr.toList ++ []) μ' R) from ?_)
      refine s86_32 hg hs hok hr (by omega) hA (fun μ1 f1 f2 => ?_)
      refine seg 2 (show iR (k + 1) ∧ Wp 85 15 [some (vR 32), some (vR 8), some (vR 12), some (vR 30), some (vI r), some (vI (k + 1))] [] μ1 R from ⟨by omega, ?_⟩)
      refine ih (k + 1) μ1 (by omega) (by omega) (fun q a1 a2 a3 => by rw [f1.1 q a1 a2 a3]; exact hF q a1 a2 a3) (fun r2 k2 a1 a2 a3 a4 => ?_) (fun k2 a1 a2 => ?_)
      · have := f1.2 (r2 * 8 + k2) (by have := hc.1.s (r := r2) (by omega); omega)
        unfold TrC
        rw [this.1, this.2.1, this.2.2]
        exact hA r2 k2 a1 a2 a3 a4
      · by_cases hq : k2 = k
        · subst hq; exact f2
        · have := f1.2 (r * 8 + k2) (by omega)
          unfold TrC
          rw [this.1, this.2.1, this.2.2]
          exact hB k2 a1 (by omega)
theorem l85_32 {G : Hi} {s : Se} {R : Po} {μ0 : Mu} (hg0 : PG G μ0) (hs0 : SeC s (μ0 30)) (hok : SeOK s) (hk : ∀ μ : Mu, (∀ q, q ≠ 33 → q ≠ 34 → q ≠ 35 → μ q = μ0 q) → (∀ r2 k2, 0 ≤ r2 → r2 < hN G → 0 ≤ k2 → k2 < hS G r2 → TrC G s (μ 33) (μ 34) (μ 35) r2 k2) → R none μ) : ∀ (n : Nat) (r : Int) (μ : Mu) (o5 : Option PV), hN G - r = n → 0 ≤ r → (∀ q, q ≠ 33 → q ≠ 34 → q ≠ 35 → μ q = μ0 q) → (∀ r2 k2, 0 ≤ r2 → r2 < r → 0 ≤ k2 → k2 < hS G r2 → TrC G s (μ 33) (μ 34) (μ 35) r2 k2) → Wp 85 3 [some (vR 32), some (vR 8), some (vR 12), some (vR 30), some (vI r), o5] [] μ R := by
  intro n
  induction n with
  | zero =>
    intro r μ o5 hm h0 hF hA
    have hg := hg0.fr (fun q a1 a2 => hF q (by omega) (by omega) (by omega))
    have hs : SeC s (μ 30) := by rw [hF 30 (by decide) (by decide) (by decide)]; exact hs0
    have hn := hg.1.1.n
    have hc := hg.1
    refine seg 3 (show Wp 43 0 [some (vR 8)] [] μ (fun rr μ' => Wp 85 9 [some (vR 32), some (vR 8), some (vR 12), some (vR 30), some (vI r), o5] (rr.toList ++ [vI r]) μ' R) from ?_)
    refine g43 hc ?_
    refine seg 1 (show (hN G ≤ r → Wp 85 58 [some (vR 32), some (vR 8), some (vR 12), some (vR 30), some (vI r), o5] [] μ R) ∧ (¬ (hN G ≤ r) → Wp 85 12 [some (vR 32), some (vR 8), some (vR 12), some (vR 30), some (vI r), o5] [] μ R) from ⟨fun c1 => ?_, fun c1 => ?_⟩)
    ·
      refine seg 1 (show R none μ from ?_)
      first | (exfalso; omega) | exact hk μ hF (fun r2 k2 a1 a2 => hA r2 k2 a1 (by omega))
    ·
      refine seg 2 (show Wp 85 15 [some (vR 32), some (vR 8), some (vR 12), some (vR 30), some (vI r), some (vI 0)] [] μ R from ?_)
      exfalso; omega
  | succ n ih =>
    intro r μ o5 hm h0 hF hA
    have hg := hg0.fr (fun q a1 a2 => hF q (by omega) (by omega) (by omega))
    have hs : SeC s (μ 30) := by rw [hF 30 (by decide) (by decide) (by decide)]; exact hs0
    have hn := hg.1.1.n
    have hc := hg.1
    refine seg 3 (show Wp 43 0 [some (vR 8)] [] μ (fun rr μ' => Wp 85 9 [some (vR 32), some (vR 8), some (vR 12), some (vR 30), some (vI r), o5] (rr.toList ++ [vI r]) μ' R) from ?_)
    refine g43 hc ?_
    refine seg 1 (show (hN G ≤ r → Wp 85 58 [some (vR 32), some (vR 8), some (vR 12), some (vR 30), some (vI r), o5] [] μ R) ∧ (¬ (hN G ≤ r) → Wp 85 12 [some (vR 32), some (vR 8), some (vR 12), some (vR 30), some (vI r), o5] [] μ R) from ⟨fun c2 => ?_, fun c2 => ?_⟩)
    ·
      refine seg 1 (show R none μ from ?_)
      first | (exfalso; omega) | exact hk μ hF (fun r2 k2 a1 a2 => hA r2 k2 a1 (by omega))
    ·
      refine seg 2 (show Wp 85 15 [some (vR 32), some (vR 8), some (vR 12), some (vR 30), some (vI r), some (vI 0)] [] μ R from ?_)
      have hsr := hc.1.s (r := r) (by omega)
      refine l85a_32 hg0 hs0 hok (r := r) (by omega) (fun μ o5 hF hA => ?_) (hS G r).toNat 0 μ (by omega) (by decide) hF hA (fun k2 a1 a2 => absurd a2 (by omega))
      refine seg 2 (show iR (r + 1) ∧ Wp 85 3 [some (vR 32), some (vR 8), some (vR 12), some (vR 30), some (vI (r + 1)), o5] [] μ R from ⟨by omega, ?_⟩)
      exact ih (r + 1) μ _ (by omega) (by omega) hF hA
theorem s85_32 {G : Hi} {s : Se} {R : Po} {μ : Mu} (hg : PG G μ) (hs : SeC s (μ 30)) (hok : SeOK s) (hk : ∀ μ2 : Mu, (∀ q, q ≠ 33 → q ≠ 34 → q ≠ 35 → μ2 q = μ q) → (∀ r2 k2, 0 ≤ r2 → r2 < hN G → 0 ≤ k2 → k2 < hS G r2 → TrC G s (μ2 33) (μ2 34) (μ2 35) r2 k2) → R none μ2) : Wp 85 0 [some (vR 32), some (vR 8), some (vR 12), some (vR 30), none, none] [] μ R := by
  have hn := hg.1.1.n
  refine seg 2 (show Wp 85 3 [some (vR 32), some (vR 8), some (vR 12), some (vR 30), some (vI 0), none] [] μ R from ?_)
  exact l85_32 hg hs hok hk (hN G).toNat 0 μ _ (by omega) (by decide) (fun _ _ _ _ => rfl) (fun r2 k2 a1 a2 => absurd a2 (by omega))
theorem l86_36 {G : Hi} {s : Se} {R : Po} {r k : Int} {μ0 μ : Mu} (hg : PG G μ) (hs : SeC s (μ 31)) (hok : SeOK s) (hr : 0 ≤ r ∧ r < hN G) (hk8 : 0 ≤ k ∧ k < hS G r) (hpar : ∀ r2 k2, 0 ≤ r2 → r2 < r → 0 ≤ k2 → k2 < hS G r2 → TrC G s (μ0 37) (μ0 38) (μ0 39) r2 k2) (hF : ((∀ q, q ≠ 37 → q ≠ 38 → q ≠ 39 → μ q = μ0 q) ∧ (∀ y, y ≠ r * 8 + k → μ 37 y = μ0 37 y ∧ μ 38 y = μ0 38 y ∧ μ 39 y = μ0 39 y))) (h1 : μ 37 (r * 8 + k) = r * 8 + k) (h2 : μ 38 (r * 8 + k) = 0) (h3 : μ 39 (r * 8 + k) = -9) (hk : ∀ μ2 : Mu, ((∀ q, q ≠ 37 → q ≠ 38 → q ≠ 39 → μ2 q = μ0 q) ∧ (∀ y, y ≠ r * 8 + k → μ2 37 y = μ0 37 y ∧ μ2 38 y = μ0 38 y ∧ μ2 39 y = μ0 39 y)) → TrC G s (μ2 37) (μ2 38) (μ2 39) r k → R none μ2) : ∀ (n : Nat) (j : Int) (o7 : Option PV), 4 - j = n → 0 ≤ j → ru G s r k = ruF G s r k n j → Wp 86 37 [some (vR 36), some (vR 12), some (vR 31), some (vI r), some (vI k), some (vI (r * 8 + k)), some (vI j), o7] [] μ R := by
  have hn := hg.1.1.n
  have hsr := hg.1.1.s hr
  have hok3 := hok.2.2
  intro n
  induction n with
  | zero =>
    intro j o7 hj h0 hu
    refine seg 3 (show (4 ≤ j → Wp 86 127 [some (vR 36), some (vR 12), some (vR 31), some (vI r), some (vI k), some (vI (r * 8 + k)), some (vI j), o7] [] μ R) ∧ (¬ (4 ≤ j) → Wp 86 43 [some (vR 36), some (vR 12), some (vR 31), some (vI r), some (vI k), some (vI (r * 8 + k)), some (vI j), o7] [] μ R) from ⟨fun c1 => ?_, fun c1 => ?_⟩)
    ·
      refine seg 1 (show R none μ from ?_)
      first
      | (exfalso; omega)
      | exact hk μ hF ⟨by rw [h1, og_no hu], by rw [h2, og_no hu], by rw [h3, hu]; rfl⟩
    ·
      refine seg 3 (show Wp 67 0 [some (vR 31), some (vI j)] [] μ (fun rr μ' => Wp 86 49 [some (vR 36), some (vR 12), some (vR 31), some (vI r), some (vI k), some (vI (r * 8 + k)), some (vI j), o7] (rr.toList ++ []) μ' R) from ?_)
      exfalso; omega
  | succ n ih =>
    intro j o7 hj h0 hu
    rw [ruF] at hu
    have gr := gv_rg hg.1.1 (s := s) (rule := j) (k := k) hr
    refine seg 3 (show (4 ≤ j → Wp 86 127 [some (vR 36), some (vR 12), some (vR 31), some (vI r), some (vI k), some (vI (r * 8 + k)), some (vI j), o7] [] μ R) ∧ (¬ (4 ≤ j) → Wp 86 43 [some (vR 36), some (vR 12), some (vR 31), some (vI r), some (vI k), some (vI (r * 8 + k)), some (vI j), o7] [] μ R) from ⟨fun c2 => ?_, fun c2 => ?_⟩)
    ·
      refine seg 1 (show R none μ from ?_)
      first
      | (exfalso; omega)
      | exact hk μ hF ⟨by rw [h1, og_no hu], by rw [h2, og_no hu], by rw [h3, hu]; rfl⟩
    ·
      refine seg 3 (show Wp 67 0 [some (vR 31), some (vI j)] [] μ (fun rr μ' => Wp 86 49 [some (vR 36), some (vR 12), some (vR 31), some (vI r), some (vI k), some (vI (r * 8 + k)), some (vI j), o7] (rr.toList ++ []) μ' R) from ?_)
      refine s67_31 (by omega) (by rw [hs.2.2]; exact hok3.1) (fun b3 => ?_) (fun b3 => ?_)
      ·
        refine seg 1 (show (1 = 0 → Wp 86 65 [some (vR 36), some (vR 12), some (vR 31), some (vI r), some (vI k), some (vI (r * 8 + k)), some (vI j), o7] [] μ R) ∧ (¬ (1 = 0) → Wp 86 52 [some (vR 36), some (vR 12), some (vR 31), some (vI r), some (vI k), some (vI (r * 8 + k)), some (vI j), o7] [] μ R) from ⟨fun z => absurd z (by decide), fun _ => ?_⟩)
        refine seg 6 (show Wp 33 0 [some (vR 12), some (vI j), some (vI r), some (vI k), some (vR 31), none, none] [] μ (fun rr μ' => Wp 86 62 [some (vR 36), some (vR 12), some (vR 31), some (vI r), some (vI k), some (vI (r * 8 + k)), some (vI j), o7] (rr.toList ++ []) μ' R) from ?_)
        refine s33_31 hg hs hok hr (by omega) (by omega) ?_
        refine seg 4 (show (gv G s j r k < 0 → Wp 86 121 [some (vR 36), some (vR 12), some (vR 31), some (vI r), some (vI k), some (vI (r * 8 + k)), some (vI j), some (vI (gv G s j r k))] [] μ R) ∧ (¬ (gv G s j r k < 0) → Wp 86 74 [some (vR 36), some (vR 12), some (vR 31), some (vI r), some (vI k), some (vI (r * 8 + k)), some (vI j), some (vI (gv G s j r k))] [] μ R) from ⟨fun c4 => ?_, fun c4 => ?_⟩)
        ·
          refine seg 2 (show iR (j + 1) ∧ Wp 86 37 [some (vR 36), some (vR 12), some (vR 31), some (vI r), some (vI k), some (vI (r * 8 + k)), some (vI (j + 1)), some (vI (gv G s j r k))] [] μ R from ⟨by omega, ?_⟩)
          rw [if_neg (fun z => by first | exact absurd z.1 (by rw [← hs.2.2]; assumption) | (have := z.2; omega))] at hu
          exact ih (j + 1) _ (by omega) (by omega) hu
        ·
          refine seg 3 (show (64 ≤ gv G s j r k → Wp 86 121 [some (vR 36), some (vR 12), some (vR 31), some (vI r), some (vI k), some (vI (r * 8 + k)), some (vI j), some (vI (gv G s j r k))] [] μ R) ∧ (¬ (64 ≤ gv G s j r k) → Wp 86 81 [some (vR 36), some (vR 12), some (vR 31), some (vI r), some (vI k), some (vI (r * 8 + k)), some (vI j), some (vI (gv G s j r k))] [] μ R) from ⟨fun c5 => ?_, fun c5 => ?_⟩)
          ·
            refine seg 2 (show iR (j + 1) ∧ Wp 86 37 [some (vR 36), some (vR 12), some (vR 31), some (vI r), some (vI k), some (vI (r * 8 + k)), some (vI (j + 1)), some (vI (gv G s j r k))] [] μ R from ⟨by omega, ?_⟩)
            rw [if_neg (fun z => by first | exact absurd z.1 (by rw [← hs.2.2]; assumption) | (have := z.2; omega))] at hu
            exact ih (j + 1) _ (by omega) (by omega) hu
          ·
            refine seg 24 (show (0 ≤ (gv G s j r k) ∧ (gv G s j r k) < 64) ∧ (0 ≤ (r * 8 + k) ∧ (r * 8 + k) < 64) ∧ (0 ≤ (gv G s j r k) ∧ (gv G s j r k) < 64) ∧ iR ((μ 38 (gv G s j r k)) + 1) ∧ (0 ≤ (r * 8 + k) ∧ (r * 8 + k) < 64) ∧ (0 ≤ (r * 8 + k) ∧ (r * 8 + k) < 64) ∧ R none (u2 (u2 (u2 μ 37 (r * 8 + k) (μ 37 (gv G s j r k))) 38 (r * 8 + k) ((μ 38 (gv G s j r k)) + 1)) 39 (r * 8 + k) j) from ⟨by omega, by omega, by omega, by have hpr := hpar (gv G s j r k / 8) (gv G s j r k % 8) (by omega) (by omega) (by omega) (by omega); have e0 := (hF.2 (gv G s j r k) (by omega)).2.1; have eg : gv G s j r k / 8 * 8 + gv G s j r k % 8 = gv G s j r k := (by omega); unfold TrC at hpr; rw [eg] at hpr; have := og_lt hg.1.1 s (r := gv G s j r k / 8) (k := gv G s j r k % 8) (by omega) (by omega); rw [e0, hpr.2.1]; omega, by omega, by omega, ?_⟩)
            rw [if_pos ⟨by rw [← hs.2.2]; assumption, by omega⟩] at hu
            have hpr := hpar (gv G s j r k / 8) (gv G s j r k % 8) (by omega) (by omega) (by omega) (by omega)
            have eg : gv G s j r k / 8 * 8 + gv G s j r k % 8 = gv G s j r k := by omega
            have ne : gv G s j r k ≠ r * 8 + k := by omega
            unfold TrC at hpr
            rw [eg] at hpr
            have e0 := hF.2 _ ne
            have hog : og G s r k = _ := og_in hg.1.1 hr (by omega)
            rw [hu] at hog
            refine hk _ ⟨fun q a1 a2 a3 => by rw [u2_ne a3, u2_ne a2, u2_ne a1]; exact hF.1 q a1 a2 a3, fun y hy => ⟨?_, ?_, ?_⟩⟩ ⟨?_, ?_, ?_⟩
            · rw [u2_ne (by decide), u2_ne (by decide), u2_at, up1_n hy]; exact (hF.2 y hy).1
            · rw [u2_ne (by decide), u2_at, u2_ne (by decide), up1_n hy]; exact (hF.2 y hy).2.1
            · rw [u2_at, u2_ne (by decide), u2_ne (by decide), up1_n hy]; exact (hF.2 y hy).2.2
            · rw [u2_ne (by decide), u2_ne (by decide), u2_at, up1_s, hog, e0.1, hpr.1]
            · rw [u2_ne (by decide), u2_at, up1_s, hog, e0.2.1, hpr.2.1]
            · rw [u2_at, up1_s, hu]
      ·
        refine seg 1 (show (0 = 0 → Wp 86 65 [some (vR 36), some (vR 12), some (vR 31), some (vI r), some (vI k), some (vI (r * 8 + k)), some (vI j), o7] [] μ R) ∧ (¬ (0 = 0) → Wp 86 52 [some (vR 36), some (vR 12), some (vR 31), some (vI r), some (vI k), some (vI (r * 8 + k)), some (vI j), o7] [] μ R) from ⟨fun _ => ?_, fun z => absurd z (by decide)⟩)
        refine seg 4 (show (-9 < 0 → Wp 86 121 [some (vR 36), some (vR 12), some (vR 31), some (vI r), some (vI k), some (vI (r * 8 + k)), some (vI j), some (vI (-9))] [] μ R) ∧ (¬ (-9 < 0) → Wp 86 74 [some (vR 36), some (vR 12), some (vR 31), some (vI r), some (vI k), some (vI (r * 8 + k)), some (vI j), some (vI (-9))] [] μ R) from ⟨fun _ => ?_, fun z => absurd z (by decide)⟩)
        refine seg 2 (show iR (j + 1) ∧ Wp 86 37 [some (vR 36), some (vR 12), some (vR 31), some (vI r), some (vI k), some (vI (r * 8 + k)), some (vI (j + 1)), some (vI (-9))] [] μ R from ⟨by omega, ?_⟩)
        rw [if_neg (fun z => by first | exact absurd z.1 (by rw [← hs.2.2]; assumption) | (have := z.2; omega))] at hu
        exact ih (j + 1) _ (by omega) (by omega) hu
theorem s86_36 {G : Hi} {s : Se} {R : Po} {r k : Int} {μ : Mu} (hg : PG G μ) (hs : SeC s (μ 31)) (hok : SeOK s) (hr : 0 ≤ r ∧ r < hN G) (hk8 : 0 ≤ k ∧ k < hS G r) (hpar : ∀ r2 k2, 0 ≤ r2 → r2 < r → 0 ≤ k2 → k2 < hS G r2 → TrC G s (μ 37) (μ 38) (μ 39) r2 k2) (hk : ∀ μ2 : Mu, ((∀ q, q ≠ 37 → q ≠ 38 → q ≠ 39 → μ2 q = μ q) ∧ (∀ y, y ≠ r * 8 + k → μ2 37 y = μ 37 y ∧ μ2 38 y = μ 38 y ∧ μ2 39 y = μ 39 y)) → TrC G s (μ2 37) (μ2 38) (μ2 39) r k → R none μ2) : Wp 86 0 [some (vR 36), some (vR 12), some (vR 31), some (vI r), some (vI k), none, none, none] [] μ R := by
  have hn := hg.1.1.n
  have hsr := hg.1.1.s hr
  refine seg 3 (show Wp 114 0 [some (vI r), some (vI k)] [] μ (fun rr μ' => Wp 86 6 [some (vR 36), some (vR 12), some (vR 31), some (vI r), some (vI k), none, none, none] (rr.toList ++ []) μ' R) from ?_)
  refine s114 (by omega) ?_
  refine seg 18 (show (0 ≤ (r * 8 + k) ∧ (r * 8 + k) < 64) ∧ (0 ≤ (r * 8 + k) ∧ (r * 8 + k) < 64) ∧ (0 ≤ (r * 8 + k) ∧ (r * 8 + k) < 64) ∧ Wp 86 37 [some (vR 36), some (vR 12), some (vR 31), some (vI r), some (vI k), some (vI (r * 8 + k)), some (vI 0), none] [] (u2 (u2 (u2 μ 37 (r * 8 + k) (r * 8 + k)) 38 (r * 8 + k) 0) 39 (r * 8 + k) (-9)) R from ⟨by omega, by omega, by omega, ?_⟩)
  obtain ⟨μ1, hμ1⟩ : ∃ z, z = u2 (u2 (u2 μ 37 (r * 8 + k) (r * 8 + k)) 38 (r * 8 + k) 0) 39 (r * 8 + k) (-9) := ⟨_, rfl⟩
  rw [← hμ1]
  have e1 : μ1 37 = up1 (μ 37) (r * 8 + k) (r * 8 + k) := by rw [hμ1, u2_ne (by decide), u2_ne (by decide), u2_at]
  have e2 : μ1 38 = up1 (μ 38) (r * 8 + k) 0 := by rw [hμ1, u2_ne (by decide), u2_at, u2_ne (by decide)]
  have e3 : μ1 39 = up1 (μ 39) (r * 8 + k) (-9) := by rw [hμ1, u2_at, u2_ne (by decide), u2_ne (by decide)]
  have e4 : ∀ q, q ≠ 37 → q ≠ 38 → q ≠ 39 → μ1 q = μ q := fun q a1 a2 a3 => by rw [hμ1, u2_ne a3, u2_ne a2, u2_ne a1]
  exact l86_36 (hg.fr (fun q a1 a2 => e4 q (by omega) (by omega) (by omega))) (by rw [e4 31 (by decide) (by decide) (by decide)]; exact hs) hok hr hk8 hpar ⟨e4, fun y hy => by rw [e1, e2, e3, up1_n hy, up1_n hy, up1_n hy]; exact ⟨rfl, rfl, rfl⟩⟩ (by rw [e1, up1_s]) (by rw [e2, up1_s]) (by rw [e3, up1_s]) hk 4 0 _ (by decide) (by decide) rfl
theorem l85a_36 {G : Hi} {s : Se} {R : Po} {μ0 : Mu} (hg0 : PG G μ0) (hs0 : SeC s (μ0 31)) (hok : SeOK s) {r : Int} (hr : 0 ≤ r ∧ r < hN G) (hk : ∀ (μ : Mu) (o5 : Option PV), (∀ q, q ≠ 37 → q ≠ 38 → q ≠ 39 → μ q = μ0 q) → (∀ r2 k2, 0 ≤ r2 → r2 < r + 1 → 0 ≤ k2 → k2 < hS G r2 → TrC G s (μ 37) (μ 38) (μ 39) r2 k2) → Wp 85 52 [some (vR 36), some (vR 8), some (vR 12), some (vR 31), some (vI r), o5] [] μ R) : ∀ (n : Nat) (k : Int) (μ : Mu), hS G r - k = n → 0 ≤ k → (∀ q, q ≠ 37 → q ≠ 38 → q ≠ 39 → μ q = μ0 q) → (∀ r2 k2, 0 ≤ r2 → r2 < r → 0 ≤ k2 → k2 < hS G r2 → TrC G s (μ 37) (μ 38) (μ 39) r2 k2) → (∀ k2, 0 ≤ k2 → k2 < k → TrC G s (μ 37) (μ 38) (μ 39) r k2) → Wp 85 15 [some (vR 36), some (vR 8), some (vR 12), some (vR 31), some (vI r), some (vI k)] [] μ R := by
  intro n
  induction n with
  | zero =>
    intro k μ hm h0 hF hA hB
    have hg := hg0.fr (fun q a1 a2 => hF q (by omega) (by omega) (by omega))
    have hs : SeC s (μ 31) := by rw [hF 31 (by decide) (by decide) (by decide)]; exact hs0
    have hn := hg.1.1.n
    have hc := hg.1
    have hsr := hc.1.s hr
    refine seg 4 (show Wp 46 0 [some (vR 8), some (vI r)] [] μ (fun rr μ' => Wp 85 23 [some (vR 36), some (vR 8), some (vR 12), some (vR 31), some (vI r), some (vI k)] (rr.toList ++ [vI k]) μ' R) from ?_)
    refine g46 hc (by omega) ?_
    refine seg 1 (show (hS G r ≤ k → Wp 85 52 [some (vR 36), some (vR 8), some (vR 12), some (vR 31), some (vI r), some (vI k)] [] μ R) ∧ (¬ (hS G r ≤ k) → Wp 85 26 [some (vR 36), some (vR 8), some (vR 12), some (vR 31), some (vI r), some (vI k)] [] μ R) from ⟨fun c1 => ?_, fun c1 => ?_⟩)
    ·
      first
      | (exfalso; omega)
      | (refine hk μ _ hF (fun r2 k2 a1 a2 a3 a4 => ?_)
         by_cases hq : r2 = r
         · subst hq; exact hB k2 a3 (by omega)
         · exact hA r2 k2 a1 (by omega) a3 a4)
    ·
      refine seg 3 (show Wp 115 0 [some (vI r), some (vI k)] [] μ (fun rr μ' => Wp 85 33 [some (vR 36), some (vR 8), some (vR 12), some (vR 31), some (vI r), some (vI k)] (rr.toList ++ []) μ' R) from ?_)
      exfalso; omega
  | succ n ih =>
    intro k μ hm h0 hF hA hB
    have hg := hg0.fr (fun q a1 a2 => hF q (by omega) (by omega) (by omega))
    have hs : SeC s (μ 31) := by rw [hF 31 (by decide) (by decide) (by decide)]; exact hs0
    have hn := hg.1.1.n
    have hc := hg.1
    have hsr := hc.1.s hr
    refine seg 4 (show Wp 46 0 [some (vR 8), some (vI r)] [] μ (fun rr μ' => Wp 85 23 [some (vR 36), some (vR 8), some (vR 12), some (vR 31), some (vI r), some (vI k)] (rr.toList ++ [vI k]) μ' R) from ?_)
    refine g46 hc (by omega) ?_
    refine seg 1 (show (hS G r ≤ k → Wp 85 52 [some (vR 36), some (vR 8), some (vR 12), some (vR 31), some (vI r), some (vI k)] [] μ R) ∧ (¬ (hS G r ≤ k) → Wp 85 26 [some (vR 36), some (vR 8), some (vR 12), some (vR 31), some (vI r), some (vI k)] [] μ R) from ⟨fun c2 => ?_, fun c2 => ?_⟩)
    ·
      first
      | (exfalso; omega)
      | (refine hk μ _ hF (fun r2 k2 a1 a2 a3 a4 => ?_)
         by_cases hq : r2 = r
         · subst hq; exact hB k2 a3 (by omega)
         · exact hA r2 k2 a1 (by omega) a3 a4)
    ·
      refine seg 3 (show Wp 115 0 [some (vI r), some (vI k)] [] μ (fun rr μ' => Wp 85 33 [some (vR 36), some (vR 8), some (vR 12), some (vR 31), some (vI r), some (vI k)] (rr.toList ++ []) μ' R) from ?_)
      refine s115t (by omega) ?_
      refine seg 1 (show (1 = 0 → Wp 85 46 [some (vR 36), some (vR 8), some (vR 12), some (vR 31), some (vI r), some (vI k)] [] μ R) ∧ (¬ (1 = 0) → Wp 85 36 [some (vR 36), some (vR 8), some (vR 12), some (vR 31), some (vI r), some (vI k)] [] μ R) from ⟨fun z => absurd z (by decide), fun _ => ?_⟩)
      refine seg 6 (show Wp 86 0 [some (vR 36), some (vR 12), some (vR 31), some (vI r), some (vI k), none, none, none] [] μ (fun rr μ' => Wp 85 46 [some (vR 36), some (vR 8), some (vR 12), some (vR 31), some (vI r), some (vI k)] (rr.toList ++ []) μ' R) from ?_)
      refine s86_36 hg hs hok hr (by omega) hA (fun μ1 f1 f2 => ?_)
      refine seg 2 (show iR (k + 1) ∧ Wp 85 15 [some (vR 36), some (vR 8), some (vR 12), some (vR 31), some (vI r), some (vI (k + 1))] [] μ1 R from ⟨by omega, ?_⟩)
      refine ih (k + 1) μ1 (by omega) (by omega) (fun q a1 a2 a3 => by rw [f1.1 q a1 a2 a3]; exact hF q a1 a2 a3) (fun r2 k2 a1 a2 a3 a4 => ?_) (fun k2 a1 a2 => ?_)
      · have := f1.2 (r2 * 8 + k2) (by have := hc.1.s (r := r2) (by omega); omega)
        unfold TrC
        rw [this.1, this.2.1, this.2.2]
        exact hA r2 k2 a1 a2 a3 a4
      · by_cases hq : k2 = k
        · subst hq; exact f2
        · have := f1.2 (r * 8 + k2) (by omega)
          unfold TrC
          rw [this.1, this.2.1, this.2.2]
          exact hB k2 a1 (by omega)
theorem l85_36 {G : Hi} {s : Se} {R : Po} {μ0 : Mu} (hg0 : PG G μ0) (hs0 : SeC s (μ0 31)) (hok : SeOK s) (hk : ∀ μ : Mu, (∀ q, q ≠ 37 → q ≠ 38 → q ≠ 39 → μ q = μ0 q) → (∀ r2 k2, 0 ≤ r2 → r2 < hN G → 0 ≤ k2 → k2 < hS G r2 → TrC G s (μ 37) (μ 38) (μ 39) r2 k2) → R none μ) : ∀ (n : Nat) (r : Int) (μ : Mu) (o5 : Option PV), hN G - r = n → 0 ≤ r → (∀ q, q ≠ 37 → q ≠ 38 → q ≠ 39 → μ q = μ0 q) → (∀ r2 k2, 0 ≤ r2 → r2 < r → 0 ≤ k2 → k2 < hS G r2 → TrC G s (μ 37) (μ 38) (μ 39) r2 k2) → Wp 85 3 [some (vR 36), some (vR 8), some (vR 12), some (vR 31), some (vI r), o5] [] μ R := by
  intro n
  induction n with
  | zero =>
    intro r μ o5 hm h0 hF hA
    have hg := hg0.fr (fun q a1 a2 => hF q (by omega) (by omega) (by omega))
    have hs : SeC s (μ 31) := by rw [hF 31 (by decide) (by decide) (by decide)]; exact hs0
    have hn := hg.1.1.n
    have hc := hg.1
    refine seg 3 (show Wp 43 0 [some (vR 8)] [] μ (fun rr μ' => Wp 85 9 [some (vR 36), some (vR 8), some (vR 12), some (vR 31), some (vI r), o5] (rr.toList ++ [vI r]) μ' R) from ?_)
    refine g43 hc ?_
    refine seg 1 (show (hN G ≤ r → Wp 85 58 [some (vR 36), some (vR 8), some (vR 12), some (vR 31), some (vI r), o5] [] μ R) ∧ (¬ (hN G ≤ r) → Wp 85 12 [some (vR 36), some (vR 8), some (vR 12), some (vR 31), some (vI r), o5] [] μ R) from ⟨fun c1 => ?_, fun c1 => ?_⟩)
    ·
      refine seg 1 (show R none μ from ?_)
      first | (exfalso; omega) | exact hk μ hF (fun r2 k2 a1 a2 => hA r2 k2 a1 (by omega))
    ·
      refine seg 2 (show Wp 85 15 [some (vR 36), some (vR 8), some (vR 12), some (vR 31), some (vI r), some (vI 0)] [] μ R from ?_)
      exfalso; omega
  | succ n ih =>
    intro r μ o5 hm h0 hF hA
    have hg := hg0.fr (fun q a1 a2 => hF q (by omega) (by omega) (by omega))
    have hs : SeC s (μ 31) := by rw [hF 31 (by decide) (by decide) (by decide)]; exact hs0
    have hn := hg.1.1.n
    have hc := hg.1
    refine seg 3 (show Wp 43 0 [some (vR 8)] [] μ (fun rr μ' => Wp 85 9 [some (vR 36), some (vR 8), some (vR 12), some (vR 31), some (vI r), o5] (rr.toList ++ [vI r]) μ' R) from ?_)
    refine g43 hc ?_
    refine seg 1 (show (hN G ≤ r → Wp 85 58 [some (vR 36), some (vR 8), some (vR 12), some (vR 31), some (vI r), o5] [] μ R) ∧ (¬ (hN G ≤ r) → Wp 85 12 [some (vR 36), some (vR 8), some (vR 12), some (vR 31), some (vI r), o5] [] μ R) from ⟨fun c2 => ?_, fun c2 => ?_⟩)
    ·
      refine seg 1 (show R none μ from ?_)
      first | (exfalso; omega) | exact hk μ hF (fun r2 k2 a1 a2 => hA r2 k2 a1 (by omega))
    ·
      refine seg 2 (show Wp 85 15 [some (vR 36), some (vR 8), some (vR 12), some (vR 31), some (vI r), some (vI 0)] [] μ R from ?_)
      have hsr := hc.1.s (r := r) (by omega)
      refine l85a_36 hg0 hs0 hok (r := r) (by omega) (fun μ o5 hF hA => ?_) (hS G r).toNat 0 μ (by omega) (by decide) hF hA (fun k2 a1 a2 => absurd a2 (by omega))
      refine seg 2 (show iR (r + 1) ∧ Wp 85 3 [some (vR 36), some (vR 8), some (vR 12), some (vR 31), some (vI (r + 1)), o5] [] μ R from ⟨by omega, ?_⟩)
      exact ih (r + 1) μ _ (by omega) (by omega) hF hA
theorem s85_36 {G : Hi} {s : Se} {R : Po} {μ : Mu} (hg : PG G μ) (hs : SeC s (μ 31)) (hok : SeOK s) (hk : ∀ μ2 : Mu, (∀ q, q ≠ 37 → q ≠ 38 → q ≠ 39 → μ2 q = μ q) → (∀ r2 k2, 0 ≤ r2 → r2 < hN G → 0 ≤ k2 → k2 < hS G r2 → TrC G s (μ2 37) (μ2 38) (μ2 39) r2 k2) → R none μ2) : Wp 85 0 [some (vR 36), some (vR 8), some (vR 12), some (vR 31), none, none] [] μ R := by
  have hn := hg.1.1.n
  refine seg 2 (show Wp 85 3 [some (vR 36), some (vR 8), some (vR 12), some (vR 31), some (vI 0), none] [] μ R from ?_)
  exact l85_36 hg hs hok hk (hN G).toNat 0 μ _ (by omega) (by decide) (fun _ _ _ _ => rfl) (fun r2 k2 a1 a2 => absurd a2 (by omega))
theorem s110 {G : Hi} {s : Se} {R : Po} {μ : Mu} (hg : PG G μ) (hs : SeC s (μ 30)) (hok : SeOK s) (hk : ∀ μ2 : Mu, (∀ q, q ≠ 33 → q ≠ 34 → q ≠ 35 → μ2 q = μ q) → (∀ r2 k2, 0 ≤ r2 → r2 < hN G → 0 ≤ k2 → k2 < hS G r2 → TrC G s (μ2 33) (μ2 34) (μ2 35) r2 k2) → R none μ2) : Wp 110 0 [some (vR 0)] [] μ R := by
  refine seg 9 (show Wp 85 0 [some (vR 32), some (vR 8), some (vR 12), some (vR 30), none, none] [] μ (fun rr μ' => Wp 110 19 [some (vR 0)] (rr.toList ++ []) μ' R) from ?_)
  refine s85_32 hg hs hok (fun μ2 f1 f2 => ?_)
  refine seg 1 (show R none μ2 from ?_)
  exact hk μ2 f1 f2
end
section
/-! sets of bits and numbers of things; codes of settings; the class's other parts -/
noncomputable def bs (P : Int → Prop) : Nat → Int
  | 0 => 0
  | n + 1 => @ite _ (P n) (Classical.propDecidable _) ((Int.toNat (bs P n) ||| Int.toNat (1 * 2 ^ ((n : Int) : Int).toNat) : Nat) : Int) (bs P n)
noncomputable def cn (P : Int → Prop) : Nat → Int
  | 0 => 0
  | n + 1 => @ite _ (P n) (Classical.propDecidable _) (cn P n + 1) (cn P n)
theorem bs_y {P : Int → Prop} {n : Nat} (h : P n) : bs P (n + 1) = ((Int.toNat (bs P n) ||| Int.toNat (1 * 2 ^ ((n : Int) : Int).toNat) : Nat) : Int) := by rw [bs]; exact if_pos h
theorem bs_n {P : Int → Prop} {n : Nat} (h : ¬ P n) : bs P (n + 1) = bs P n := by rw [bs]; exact if_neg h
theorem cn_y {P : Int → Prop} {n : Nat} (h : P n) : cn P (n + 1) = cn P n + 1 := by rw [cn]; exact if_pos h
theorem cn_n {P : Int → Prop} {n : Nat} (h : ¬ P n) : cn P (n + 1) = cn P n := by rw [cn]; exact if_neg h
theorem bs_nn (P : Int → Prop) : ∀ n, 0 ≤ bs P n := by
  intro n
  induction n with
  | zero => exact Int.le_refl _
  | succ n ih =>
    rw [bs]
    split
    · exact Int.natCast_nonneg _
    · exact ih
theorem bs_lt (P : Int → Prop) : ∀ n, n ≤ 8 → bs P n < 256 := by
  intro n
  induction n with
  | zero => intro _; show (0 : Int) < 256; decide
  | succ n ih =>
    intro hn
    have h0 := bs_nn P n
    have h1 := ih (by omega)
    rw [bs]
    split
    · obtain ⟨X, hX⟩ := Int.eq_ofNat_of_zero_le h0
      have e : Int.toNat (1 * 2 ^ ((n : Int) : Int).toNat) = 1 * 2 ^ n := by
        rw [Int.toNat_natCast, show ((1 : Int) * 2 ^ n) = ((1 * 2 ^ n : Nat) : Int) by simp]
        rfl
      rw [e, hX, Int.toNat_natCast]
      have := (or_fact X (by omega) n (by omega)).1
      omega
    · exact h1
theorem cn_rg (P : Int → Prop) : ∀ n : Nat, 0 ≤ cn P n ∧ cn P n ≤ n := by
  intro n
  induction n with
  | zero => exact ⟨Int.le_refl _, Int.le_refl _⟩
  | succ n ih =>
    rw [cn]
    split <;> omega
def cod (s : Se) : Int := (s.2.1 * 16 + s.2.2) * 8 + s.1
theorem cod_rg {s : Se} (h : SeOK s) : 0 ≤ cod s ∧ cod s < 32768 := by
  obtain ⟨h1, h2, h3⟩ := h
  unfold cod
  omega
theorem cod_or {a b c : Int} (ha : 0 ≤ a ∧ a < 256) (hb : 0 ≤ b ∧ b < 16) (hc : 0 ≤ c ∧ c < 8) : ((Int.toNat (((Int.toNat (a * 2 ^ (4 : Int).toNat) ||| Int.toNat b : Nat) : Int) * 2 ^ (3 : Int).toNat) ||| Int.toNat c : Nat) : Int) = (a * 16 + b) * 8 + c := by
  obtain ⟨a, rfl⟩ := Int.eq_ofNat_of_zero_le ha.1
  obtain ⟨b, rfl⟩ := Int.eq_ofNat_of_zero_le hb.1
  obtain ⟨c, rfl⟩ := Int.eq_ofNat_of_zero_le hc.1
  have e1 : Int.toNat ((a : Int) * 2 ^ (4 : Int).toNat) = a * 2 ^ 4 := by
    show Int.toNat ((a : Int) * 2 ^ 4) = _
    omega
  rw [e1, Int.toNat_natCast, or_lo a b 4 (by omega)]
  have e2 : Int.toNat (((a * 2 ^ 4 + b : Nat) : Int) * 2 ^ (3 : Int).toNat) = (a * 2 ^ 4 + b) * 2 ^ 3 := by
    show Int.toNat (((a * 2 ^ 4 + b : Nat) : Int) * 2 ^ 3) = _
    omega
  rw [e2, Int.toNat_natCast, or_lo _ c 3 (by omega)]
  omega
theorem and_mod {x : Int} (hx : 0 ≤ x) (n : Nat) {m : Int} (hm : Int.toNat m = 2 ^ n - 1) : ((Int.toNat x &&& Int.toNat m : Nat) : Int) = x % ((2 ^ n : Nat) : Int) := by
  obtain ⟨x, rfl⟩ := Int.eq_ofNat_of_zero_le hx
  rw [hm, Int.toNat_natCast, Nat.and_two_pow_sub_one_eq_mod]
  exact Int.natCast_emod x (2 ^ n)
theorem un_cod {s : Se} (h : SeOK s) : ((Int.toNat (cod s) &&& Int.toNat 7 : Nat) : Int) = s.1 ∧ ((Int.toNat (cod s / 2 ^ (3 : Int).toNat) &&& Int.toNat 15 : Nat) : Int) = s.2.2 ∧ ((Int.toNat (cod s / 2 ^ (7 : Int).toNat) &&& Int.toNat 255 : Nat) : Int) = s.2.1 := by
  have h0 := cod_rg h
  obtain ⟨h1, h2, h3⟩ := h
  refine ⟨?_, ?_, ?_⟩
  · rw [and_mod h0.1 3 rfl]
    show cod s % 8 = _
    unfold cod
    omega
  · rw [and_mod (show 0 ≤ cod s / 2 ^ (3 : Int).toNat from sh_nn h0.1 3) 4 rfl]
    show cod s / 8 % 16 = _
    unfold cod
    omega
  · rw [and_mod (show 0 ≤ cod s / 2 ^ (7 : Int).toNat from sh_nn h0.1 7) 8 rfl]
    show cod s / 128 % 256 = _
    unfold cod
    omega
theorem xor_fact : ∀ x, x < 256 → ∀ i, i < 8 → (x ^^^ 1 * 2 ^ i) < 256 := by decide +kernel
theorem xor_fact4 : ∀ x, x < 16 → ∀ i, i < 4 → (x ^^^ 1 * 2 ^ i) < 16 := by decide +kernel
def xr (x r : Int) : Int := ((Int.toNat x ^^^ Int.toNat (1 * 2 ^ (r : Int).toNat) : Nat) : Int)
theorem xr_rg {x r : Int} (hx : 0 ≤ x ∧ x < 256) (hr : 0 ≤ r ∧ r < 8) : 0 ≤ xr x r ∧ xr x r < 256 := by
  obtain ⟨x, rfl⟩ := Int.eq_ofNat_of_zero_le hx.1
  obtain ⟨r, rfl⟩ := Int.eq_ofNat_of_zero_le hr.1
  have e : Int.toNat (1 * 2 ^ ((r : Int) : Int).toNat) = 1 * 2 ^ r := by
    rw [Int.toNat_natCast, show ((1 : Int) * 2 ^ r) = ((1 * 2 ^ r : Nat) : Int) by simp]
    rfl
  unfold xr
  rw [e, Int.toNat_natCast]
  have := xor_fact x (by omega) r (by omega)
  omega
theorem xr_rg4 {x r : Int} (hx : 0 ≤ x ∧ x < 16) (hr : 0 ≤ r ∧ r < 4) : 0 ≤ xr x r ∧ xr x r < 16 := by
  obtain ⟨x, rfl⟩ := Int.eq_ofNat_of_zero_le hx.1
  obtain ⟨r, rfl⟩ := Int.eq_ofNat_of_zero_le hr.1
  have e : Int.toNat (1 * 2 ^ ((r : Int) : Int).toNat) = 1 * 2 ^ r := by
    rw [Int.toNat_natCast, show ((1 : Int) * 2 ^ r) = ((1 * 2 ^ r : Nat) : Int) by simp]
    rfl
  unfold xr
  rw [e, Int.toNat_natCast]
  have := xor_fact4 x (by omega) r (by omega)
  omega
def tP (s : Se) (r : Int) : Se := (s.1, xr s.2.1 r, s.2.2)
def tR (s : Se) (r : Int) : Se := (s.1, s.2.1, xr s.2.2 r)
theorem tP_ok {s : Se} {r : Int} (h : SeOK s) (hr : 0 ≤ r ∧ r < 8) : SeOK (tP s r) := ⟨h.1, xr_rg h.2.1 hr, h.2.2⟩
theorem tR_ok {s : Se} {r : Int} (h : SeOK s) (hr : 0 ≤ r ∧ r < 4) : SeOK (tR s r) := ⟨h.1, h.2.1, xr_rg4 h.2.2 hr⟩
/-- the class: history, settings, traces -/
def RH (G : Hi) (s : Se) (μ : Mu) : Prop := PG G μ ∧ SeC s (μ 30) ∧ SeOK s ∧ (∀ r k, 0 ≤ r → r < hN G → 0 ≤ k → k < hS G r → TrC G s (μ 33) (μ 34) (μ 35) r k) ∧ μ 13 0 = 0 ∧ μ 19 0 = 1
theorem RH.fr {G : Hi} {s : Se} {μ μ' : Mu} (h : RH G s μ) (hf : ∀ q, 8 ≤ q → q ≤ 35 → q ≠ 31 → μ' q = μ q) : RH G s μ' := by
  obtain ⟨h1, h2, h3, h4, h5, h6⟩ := h
  refine ⟨h1.fr (fun q a b => hf q a (by omega) (by omega)), ?_, h3, ?_, ?_, ?_⟩
  · rw [hf 30 (by decide) (by decide) (by decide)]; exact h2
  · rw [hf 33 (by decide) (by decide) (by decide), hf 34 (by decide) (by decide) (by decide), hf 35 (by decide) (by decide) (by decide)]; exact h4
  · rw [hf 13 (by decide) (by decide) (by decide)]; exact h5
  · rw [hf 19 (by decide) (by decide) (by decide)]; exact h6
abbrev Tx : Type := Int × (Int → Int)
def RT (T : Tx) (μ : Mu) : Prop := μ 1 1 = T.1 ∧ (0 ≤ T.1 ∧ T.1 ≤ 120) ∧ ∀ i, 0 ≤ i → i < T.1 → μ 2 i = T.2 i ∧ 0 ≤ T.2 i ∧ T.2 i ≤ 255
abbrev Un : Type := Int × (Int → Se)
def RU (U : Un) (μ : Mu) : Prop := μ 40 1 = U.1 ∧ (0 ≤ U.1 ∧ U.1 ≤ 10) ∧ ∀ i, 0 ≤ i → i < U.1 → μ 41 i = cod (U.2 i) ∧ SeOK (U.2 i)
def RI (im : Int → Option Se) (μ : Mu) : Prop := ∀ i, 0 ≤ i → i < 2 → match im i with
  | none => μ 46 i = -9
  | some s => μ 46 i = cod s ∧ SeOK s
abbrev Sn : Type := Int × (Int → Int × Int × Int × Int)
def SnOK (G : Hi) (z : Int × Int × Int × Int) : Prop := (0 ≤ z.1 ∧ z.1 < hN G) ∧ (0 ≤ z.2.1 ∧ z.2.1 < hS G z.1) ∧ (0 ≤ z.2.2.1 ∧ z.2.2.1 < hN G) ∧ (z.2.2.2 = 0 ∨ z.2.2.2 = 1)
def RN (G : Hi) (N : Sn) (μ : Mu) : Prop := μ 42 3 = N.1 ∧ (0 ≤ N.1 ∧ N.1 ≤ 6) ∧ ∀ i, 0 ≤ i → i < N.1 → μ 43 i = (N.2 i).1 * 8 + (N.2 i).2.1 ∧ μ 44 i = (N.2 i).2.2.1 ∧ μ 45 i = (N.2 i).2.2.2 ∧ SnOK G (N.2 i)
def RC (G : Hi) (T : Tx) (s : Se) (U : Un) (im : Int → Option Se) (N : Sn) (μ : Mu) : Prop := RH G s μ ∧ RT T μ ∧ RU U μ ∧ RI im μ ∧ RN G N μ
theorem RT.fr {T : Tx} {μ μ' : Mu} (h : RT T μ) (h1 : μ' 1 = μ 1) (h2 : μ' 2 = μ 2) : RT T μ' := by unfold RT; rw [h1, h2]; exact h
theorem RU.fr {T : Un} {μ μ' : Mu} (h : RU T μ) (h1 : μ' 40 = μ 40) (h2 : μ' 41 = μ 41) : RU T μ' := by unfold RU; rw [h1, h2]; exact h
theorem RI.fr {im : Int → Option Se} {μ μ' : Mu} (h : RI im μ) (h1 : μ' 46 = μ 46) : RI im μ' := by unfold RI; rw [h1]; exact h
theorem RN.fr {G : Hi} {N : Sn} {μ μ' : Mu} (h : RN G N μ) (h1 : μ' 42 = μ 42) (h2 : μ' 43 = μ 43) (h3 : μ' 44 = μ 44) (h4 : μ' 45 = μ 45) : RN G N μ' := by unfold RN; rw [h1, h2, h3, h4]; exact h
theorem o82 {G : Hi} {s : Se} {μ : Mu} {R : Po} {r k : Int} (hh : RH G s μ) (hr : 0 ≤ r ∧ r < hN G) (hk8 : 0 ≤ k ∧ k < hS G r) (h : R (some (vI (og G s r k).1)) μ) : Wp 82 0 [some (vR 32), some (vI r), some (vI k)] [] μ R := by
  have h1 := hh.1.1.1.n; have h2 := hh.1.1.1.s hr
  exact s82v_32 (by omega) (by rw [(hh.2.2.2.1 r k hr.1 hr.2 hk8.1 hk8.2).1]; exact h)
/-- lines of r whose origin is o -/
noncomputable def LF (G : Hi) (s : Se) (o r : Int) : Int := bs (fun k => (og G s r k).1 = o) (hS G r).toNat
noncomputable def OL (G : Hi) (s : Se) (r l : Int) : Int := cn (fun k => (og G s r k).1 < (og G s r l).1 ∨ ((og G s r k).1 = (og G s r l).1 ∧ k < l)) (hS G r).toNat
noncomputable def OW (G : Hi) (s : Se) (r : Int) (k : Nat) : Int := cn (fun k => (og G s r k).1 = r * 8 + k) k
noncomputable def OWs (G : Hi) (s : Se) : Nat → Int
  | 0 => 0
  | r + 1 => OWs G s r + OW G s r (hS G r).toNat
def SZs (G : Hi) : Nat → Int
  | 0 => 0
  | r + 1 => SZs G r + hS G r
def SO (G : Hi) (s : Se) (N : Sn) (n : Int) : Prop := ∀ i, 0 ≤ i → i < n → ((og G s (N.2 i).1 (N.2 i).2.1).1 / 8 = (N.2 i).2.2.1 ↔ (N.2 i).2.2.2 = 1)
theorem SZs_rg {G : Hi} (hG : HiOK G) : ∀ r : Nat, (r : Int) ≤ hN G → 0 ≤ SZs G r ∧ SZs G r ≤ 8 * r := by
  intro r
  induction r with
  | zero => intro _; exact ⟨Int.le_refl _, Int.le_refl _⟩
  | succ r ih =>
    intro h
    have h1 := ih (by omega)
    have h2 := hG.s (r := (r : Int)) (by omega)
    rw [SZs]
    omega
theorem OWs_rg {G : Hi} (hG : HiOK G) (s : Se) : ∀ r : Nat, (r : Int) ≤ hN G → 0 ≤ OWs G s r ∧ OWs G s r ≤ 8 * r := by
  intro r
  induction r with
  | zero => intro _; exact ⟨Int.le_refl _, Int.le_refl _⟩
  | succ r ih =>
    intro h
    have h1 := ih (by omega)
    have h2 := hG.s (r := (r : Int)) (by omega)
    have h3 := cn_rg (fun k => (og G s r k).1 = r * 8 + k) (hS G r).toNat
    rw [OWs]
    unfold OW
    omega
theorem s58_30 {s : Se} {R : Po} {μ : Mu} (hs : SeC s (μ 30)) (hok : SeOK s) (h : R (some (vI (cod s))) μ) : Wp 58 0 [some (vR 30)] [] μ R := by
  have a1 := hok.1; have a2 := hok.2.1; have a3 := hok.2.2
  rw [← hs.1] at a1; rw [← hs.2.1] at a2; rw [← hs.2.2] at a3
  have e1 : μ 30 1 * 2 ^ (4 : Int).toNat = μ 30 1 * 16 := rfl
  have e2 : (Int.toNat (μ 30 1 * 2 ^ (4 : Int).toNat) ||| Int.toNat (μ 30 2) : Nat) = (μ 30 1).toNat * 16 + (μ 30 2).toNat := by
    have := or_lo (μ 30 1).toNat (μ 30 2).toNat 4 (by omega)
    rw [show Int.toNat (μ 30 1 * 2 ^ (4 : Int).toNat) = (μ 30 1).toNat * 2 ^ 4 by rw [e1]; omega, this]
  have e3 : ((Int.toNat (μ 30 1 * 2 ^ (4 : Int).toNat) ||| Int.toNat (μ 30 2) : Nat) : Int) * 2 ^ (3 : Int).toNat = ((Int.toNat (μ 30 1 * 2 ^ (4 : Int).toNat) ||| Int.toNat (μ 30 2) : Nat) : Int) * 8 := rfl
  refine seg 13 (show (0 ≤ (μ 30 1) ∧ 0 ≤ 4 ∧ 4 < 31 ∧ (μ 30 1) * 2 ^ (4 : Int).toNat ≤ 2147483647) ∧ (0 ≤ ((μ 30 1) * 2 ^ (4 : Int).toNat) ∧ 0 ≤ (μ 30 2)) ∧ (0 ≤ ((Int.toNat ((μ 30 1) * 2 ^ (4 : Int).toNat) ||| Int.toNat (μ 30 2) : Nat) : Int) ∧ 0 ≤ 3 ∧ 3 < 31 ∧ ((Int.toNat ((μ 30 1) * 2 ^ (4 : Int).toNat) ||| Int.toNat (μ 30 2) : Nat) : Int) * 2 ^ (3 : Int).toNat ≤ 2147483647) ∧ (0 ≤ (((Int.toNat ((μ 30 1) * 2 ^ (4 : Int).toNat) ||| Int.toNat (μ 30 2) : Nat) : Int) * 2 ^ (3 : Int).toNat) ∧ 0 ≤ (μ 30 0)) ∧ R (some (vI ((Int.toNat (((Int.toNat ((μ 30 1) * 2 ^ (4 : Int).toNat) ||| Int.toNat (μ 30 2) : Nat) : Int) * 2 ^ (3 : Int).toNat) ||| Int.toNat (μ 30 0) : Nat) : Int))) μ from ⟨by omega, by omega, by omega, by omega, ?_⟩)
  rw [cod_or (by omega) (by omega) (by omega), hs.1, hs.2.1, hs.2.2]; exact h
theorem s59_30 {s : Se} {R : Po} {μ : Mu} {c : Int} (hc : c = cod s) (hok : SeOK s) (hk : ∀ μ2 : Mu, (∀ q, q ≠ 30 → μ2 q = μ q) → SeC s (μ2 30) → R none μ2) : Wp 59 0 [some (vR 30), some (vI c)] [] μ R := by
  have h0 := cod_rg hok
  have g3 : 0 ≤ c / 2 ^ (3 : Int).toNat := sh_nn (by omega) 3
  have g7 : 0 ≤ c / 2 ^ (7 : Int).toNat := sh_nn (by omega) 7
  refine seg 20 (show (0 ≤ c ∧ 0 ≤ 7) ∧ (0 ≤ c ∧ 0 ≤ 3 ∧ 3 < 31) ∧ (0 ≤ (c / 2 ^ (3 : Int).toNat) ∧ 0 ≤ 15) ∧ (0 ≤ c ∧ 0 ≤ 7 ∧ 7 < 31) ∧ (0 ≤ (c / 2 ^ (7 : Int).toNat) ∧ 0 ≤ 255) ∧ R none (u2 (u2 (u2 μ 30 0 ((Int.toNat c &&& Int.toNat 7 : Nat) : Int)) 30 2 ((Int.toNat (c / 2 ^ (3 : Int).toNat) &&& Int.toNat 15 : Nat) : Int)) 30 1 ((Int.toNat (c / 2 ^ (7 : Int).toNat) &&& Int.toNat 255 : Nat) : Int)) from ⟨by omega, by omega, by omega, by omega, by omega, ?_⟩)
  subst hc
  have e := un_cod hok
  refine hk _ (fun q hq => by rw [u2_ne hq, u2_ne hq, u2_ne hq]) ⟨?_, ?_, ?_⟩
  · rw [u2_at, up1_n (by decide), u2_at, up1_n (by decide), u2_at, up1_s]; exact e.1
  · rw [u2_at, up1_s]; exact e.2.2
  · rw [u2_at, up1_n (by decide), u2_at, up1_s]; exact e.2.1
theorem s58_31 {s : Se} {R : Po} {μ : Mu} (hs : SeC s (μ 31)) (hok : SeOK s) (h : R (some (vI (cod s))) μ) : Wp 58 0 [some (vR 31)] [] μ R := by
  have a1 := hok.1; have a2 := hok.2.1; have a3 := hok.2.2
  rw [← hs.1] at a1; rw [← hs.2.1] at a2; rw [← hs.2.2] at a3
  have e1 : μ 31 1 * 2 ^ (4 : Int).toNat = μ 31 1 * 16 := rfl
  have e2 : (Int.toNat (μ 31 1 * 2 ^ (4 : Int).toNat) ||| Int.toNat (μ 31 2) : Nat) = (μ 31 1).toNat * 16 + (μ 31 2).toNat := by
    have := or_lo (μ 31 1).toNat (μ 31 2).toNat 4 (by omega)
    rw [show Int.toNat (μ 31 1 * 2 ^ (4 : Int).toNat) = (μ 31 1).toNat * 2 ^ 4 by rw [e1]; omega, this]
  have e3 : ((Int.toNat (μ 31 1 * 2 ^ (4 : Int).toNat) ||| Int.toNat (μ 31 2) : Nat) : Int) * 2 ^ (3 : Int).toNat = ((Int.toNat (μ 31 1 * 2 ^ (4 : Int).toNat) ||| Int.toNat (μ 31 2) : Nat) : Int) * 8 := rfl
  refine seg 13 (show (0 ≤ (μ 31 1) ∧ 0 ≤ 4 ∧ 4 < 31 ∧ (μ 31 1) * 2 ^ (4 : Int).toNat ≤ 2147483647) ∧ (0 ≤ ((μ 31 1) * 2 ^ (4 : Int).toNat) ∧ 0 ≤ (μ 31 2)) ∧ (0 ≤ ((Int.toNat ((μ 31 1) * 2 ^ (4 : Int).toNat) ||| Int.toNat (μ 31 2) : Nat) : Int) ∧ 0 ≤ 3 ∧ 3 < 31 ∧ ((Int.toNat ((μ 31 1) * 2 ^ (4 : Int).toNat) ||| Int.toNat (μ 31 2) : Nat) : Int) * 2 ^ (3 : Int).toNat ≤ 2147483647) ∧ (0 ≤ (((Int.toNat ((μ 31 1) * 2 ^ (4 : Int).toNat) ||| Int.toNat (μ 31 2) : Nat) : Int) * 2 ^ (3 : Int).toNat) ∧ 0 ≤ (μ 31 0)) ∧ R (some (vI ((Int.toNat (((Int.toNat ((μ 31 1) * 2 ^ (4 : Int).toNat) ||| Int.toNat (μ 31 2) : Nat) : Int) * 2 ^ (3 : Int).toNat) ||| Int.toNat (μ 31 0) : Nat) : Int))) μ from ⟨by omega, by omega, by omega, by omega, ?_⟩)
  rw [cod_or (by omega) (by omega) (by omega), hs.1, hs.2.1, hs.2.2]; exact h
theorem s59_31 {s : Se} {R : Po} {μ : Mu} {c : Int} (hc : c = cod s) (hok : SeOK s) (hk : ∀ μ2 : Mu, (∀ q, q ≠ 31 → μ2 q = μ q) → SeC s (μ2 31) → R none μ2) : Wp 59 0 [some (vR 31), some (vI c)] [] μ R := by
  have h0 := cod_rg hok
  have g3 : 0 ≤ c / 2 ^ (3 : Int).toNat := sh_nn (by omega) 3
  have g7 : 0 ≤ c / 2 ^ (7 : Int).toNat := sh_nn (by omega) 7
  refine seg 20 (show (0 ≤ c ∧ 0 ≤ 7) ∧ (0 ≤ c ∧ 0 ≤ 3 ∧ 3 < 31) ∧ (0 ≤ (c / 2 ^ (3 : Int).toNat) ∧ 0 ≤ 15) ∧ (0 ≤ c ∧ 0 ≤ 7 ∧ 7 < 31) ∧ (0 ≤ (c / 2 ^ (7 : Int).toNat) ∧ 0 ≤ 255) ∧ R none (u2 (u2 (u2 μ 31 0 ((Int.toNat c &&& Int.toNat 7 : Nat) : Int)) 31 2 ((Int.toNat (c / 2 ^ (3 : Int).toNat) &&& Int.toNat 15 : Nat) : Int)) 31 1 ((Int.toNat (c / 2 ^ (7 : Int).toNat) &&& Int.toNat 255 : Nat) : Int)) from ⟨by omega, by omega, by omega, by omega, by omega, ?_⟩)
  subst hc
  have e := un_cod hok
  refine hk _ (fun q hq => by rw [u2_ne hq, u2_ne hq, u2_ne hq]) ⟨?_, ?_, ?_⟩
  · rw [u2_at, up1_n (by decide), u2_at, up1_n (by decide), u2_at, up1_s]; exact e.1
  · rw [u2_at, up1_s]; exact e.2.2
  · rw [u2_at, up1_n (by decide), u2_at, up1_s]; exact e.2.1
theorem l4 {R : Po} {μ0 : Mu} (hk : ∀ μ : Mu, (∀ q, q ≠ 41 → μ q = μ0 q) → (∀ x, μ 41 x = if 0 ≤ x ∧ x < 10 - 1 then μ0 41 (x + 1) else μ0 41 x) → R none (u2 μ 40 1 9)) : ∀ (n : Nat) (i : Int) (μ : Mu), 10 - i = n → 1 ≤ i → (∀ q, q ≠ 41 → μ q = μ0 q) → (∀ x, μ 41 x = if 0 ≤ x ∧ x < i - 1 then μ0 41 (x + 1) else μ0 41 x) → Wp 4 2 [some (vR 40), some (vI i)] [] μ R := by
  intro n
  induction n with
  | zero =>
    intro i μ hn h1 hF hA
    refine seg 3 (show (10 ≤ i → Wp 4 28 [some (vR 40), some (vI i)] [] μ R) ∧ (¬ (10 ≤ i) → Wp 4 8 [some (vR 40), some (vI i)] [] μ R) from ⟨fun c1 => ?_, fun c1 => ?_⟩)
    ·
      refine seg 4 (show R none (u2 μ 40 1 9) from ?_)
      first | (obtain rfl : i = 10 := (by omega); exact hk μ hF hA) | (exfalso; omega)
    ·
      refine seg 12 (show iR (i - 1) ∧ (0 ≤ i ∧ i < 10) ∧ (0 ≤ (i - 1) ∧ (i - 1) < 10) ∧ iR (i + 1) ∧ Wp 4 2 [some (vR 40), some (vI (i + 1))] [] (u2 μ 41 (i - 1) (μ 41 i)) R from ⟨by omega, by omega, by omega, by omega, ?_⟩)
      exfalso; omega
  | succ n ih =>
    intro i μ hn h1 hF hA
    refine seg 3 (show (10 ≤ i → Wp 4 28 [some (vR 40), some (vI i)] [] μ R) ∧ (¬ (10 ≤ i) → Wp 4 8 [some (vR 40), some (vI i)] [] μ R) from ⟨fun c2 => ?_, fun c2 => ?_⟩)
    ·
      refine seg 4 (show R none (u2 μ 40 1 9) from ?_)
      first | (obtain rfl : i = 10 := (by omega); exact hk μ hF hA) | (exfalso; omega)
    ·
      refine seg 12 (show iR (i - 1) ∧ (0 ≤ i ∧ i < 10) ∧ (0 ≤ (i - 1) ∧ (i - 1) < 10) ∧ iR (i + 1) ∧ Wp 4 2 [some (vR 40), some (vI (i + 1))] [] (u2 μ 41 (i - 1) (μ 41 i)) R from ⟨by omega, by omega, by omega, by omega, ?_⟩)
      refine ih (i + 1) _ (by omega) (by omega) (fun q hq => by rw [u2_ne hq]; exact hF q hq) (fun x => ?_)
      rw [u2_at]
      by_cases hx : x = i - 1
      · subst hx
        rw [up1_s, if_pos (by omega), hA i, if_neg (by omega)]
        congr 1
        omega
      · rw [up1_n hx, hA x]
        by_cases hq : 0 ≤ x ∧ x < i - 1
        · rw [if_pos hq, if_pos (by omega)]
        · rw [if_neg hq, if_neg (by omega)]
theorem s4 {R : Po} {μ : Mu} (hk : ∀ μ2 : Mu, (∀ q, q ≠ 41 → μ2 q = μ q) → (∀ x, μ2 41 x = if 0 ≤ x ∧ x < 10 - 1 then μ 41 (x + 1) else μ 41 x) → R none (u2 μ2 40 1 9)) : Wp 4 0 [some (vR 40), none] [] μ R := by
  refine seg 2 (show Wp 4 2 [some (vR 40), some (vI 1)] [] μ R from ?_)
  exact l4 hk 9 1 μ (by decide) (by decide) (fun _ _ => rfl) (fun x => by rw [if_neg (by omega)])
def adU (U : Un) (s : Se) : Un := if U.1 = 10 then (10, fun i => if i = 9 then s else U.2 (i + 1)) else (U.1 + 1, fun i => if i = U.1 then s else U.2 i)
theorem s3 {U : Un} {s : Se} {R : Po} {μ : Mu} {c : Int} (hu : RU U μ) (hc : c = cod s) (hok : SeOK s) (hk : ∀ μ2 : Mu, (∀ q, q ≠ 40 → q ≠ 41 → μ2 q = μ q) → RU (adU U s) μ2 → R none μ2) : Wp 3 0 [some (vR 40), some (vI c)] [] μ R := by
  have h1 := hu.1; have h2 := hu.2.1
  refine seg 4 (show (μ 40 1 < 10 → Wp 3 13 [some (vR 40), some (vI c)] [] μ R) ∧ (¬ (μ 40 1 < 10) → Wp 3 9 [some (vR 40), some (vI c)] [] μ R) from ⟨fun c1 => ?_, fun c1 => ?_⟩)
  ·
    refine seg 13 (show (0 ≤ (μ 40 1) ∧ (μ 40 1) < 10) ∧ iR ((μ 40 1) + 1) ∧ R none (u2 (u2 μ 41 (μ 40 1) c) 40 1 ((μ 40 1) + 1)) from ⟨by omega, by omega, ?_⟩)
    have hU : ¬ U.1 = 10 := by omega
    refine hk _ (fun q a1 a2 => by rw [u2_ne a1, u2_ne a2]) ?_
    unfold adU
    rw [if_neg hU]
    refine ⟨by rw [u2_at, up1_s, hu.1], ⟨by show (0 : Int) ≤ U.1 + 1; omega, by show U.1 + 1 ≤ 10; omega⟩, fun i a1 a2 => ?_⟩
    have a2 : i < U.1 + 1 := a2
    rw [u2_ne (by decide), u2_at]
    by_cases hi : i = U.1
    · rw [hu.1, hi, up1_s]
      show _ = cod (if U.1 = U.1 then s else U.2 U.1) ∧ SeOK (if U.1 = U.1 then s else U.2 U.1)
      rw [if_pos rfl]; exact ⟨hc, hok⟩
    · rw [hu.1, up1_n hi]
      show _ = cod (if i = U.1 then s else U.2 i) ∧ SeOK (if i = U.1 then s else U.2 i)
      rw [if_neg hi]
      exact hu.2.2 i a1 (by omega)
  ·
    refine seg 2 (show Wp 4 0 [some (vR 40), none] [] μ (fun rr μ' => Wp 3 13 [some (vR 40), some (vI c)] (rr.toList ++ []) μ' R) from ?_)
    refine s4 (fun μ2 f1 f2 => ?_)
    refine seg 13 (show (0 ≤ 9 ∧ 9 < 10) ∧ iR (9 + 1) ∧ R none (u2 (u2 (u2 μ2 40 1 9) 41 9 c) 40 1 (9 + 1)) from ⟨by omega, by omega, ?_⟩)
    have hU : U.1 = 10 := by omega
    refine hk _ (fun q a1 a2 => by rw [u2_ne a1, u2_ne a2, u2_ne a1, f1 q a2]) ?_
    unfold adU
    rw [if_pos hU]
    refine ⟨by rw [u2_at, up1_s]; rfl, ⟨by show (0 : Int) ≤ 10; decide, by show (10 : Int) ≤ 10; decide⟩, fun i a1 a2 => ?_⟩
    have a2 : i < 10 := a2
    rw [u2_ne (by decide), u2_at, u2_ne (by decide)]
    by_cases hi : i = 9
    · subst hi; rw [up1_s]; exact ⟨hc, hok⟩
    · rw [up1_n hi, f2 i, if_pos (by omega)]
      show _ = cod (if i = 9 then s else U.2 (i + 1)) ∧ SeOK (if i = 9 then s else U.2 (i + 1))
      rw [if_neg hi]
      exact hu.2.2 (i + 1) (by omega) (by omega)
theorem l111 {G : Hi} {s : Se} {R : Po} {μ : Mu} {o r : Int} (hh : RH G s μ) (hr : 0 ≤ r ∧ r < hN G) (hk : R (some (vI (LF G s o r))) μ) : ∀ (n k : Nat), hS G r - (k : Int) = n → Wp 111 5 [some (vR 0), some (vI o), some (vI r), some (vI (bs (fun k => (og G s r k).1 = o) k)), some (vI (k : Int))] [] μ R := by
  have hn := hh.1.1.1.n
  have hsr := hh.1.1.1.s hr
  intro n
  induction n with
  | zero =>
    intro k  hm
    have hp : k < 8 → 1 * 2 ^ ((k : Int)).toNat ≤ (128 : Int) ∧ (0 : Int) ≤ 1 * 2 ^ ((k : Int)).toNat := fun z => pw_le (k := (k : Int)) (by omega)
    have hb := bs_nn (fun k => (og G s r k).1 = o) k
    refine seg 5 (show Wp 46 0 [some (vR 8), some (vI r)] [] μ (fun rr μ' => Wp 111 15 [some (vR 0), some (vI o), some (vI r), some (vI (bs (fun k => (og G s r k).1 = o) k)), some (vI (k : Int))] (rr.toList ++ [vI (k : Int)]) μ' R) from ?_)
    refine g46 hh.1.1 (by omega) ?_
    refine seg 1 (show (hS G r ≤ (k : Int) → Wp 111 45 [some (vR 0), some (vI o), some (vI r), some (vI (bs (fun k => (og G s r k).1 = o) k)), some (vI (k : Int))] [] μ R) ∧ (¬ (hS G r ≤ (k : Int)) → Wp 111 18 [some (vR 0), some (vI o), some (vI r), some (vI (bs (fun k => (og G s r k).1 = o) k)), some (vI (k : Int))] [] μ R) from ⟨fun c1 => ?_, fun c1 => ?_⟩)
    ·
      refine seg 2 (show R (some (vI (bs (fun k => (og G s r k).1 = o) k))) μ from ?_)
      first | (exfalso; omega) | (have e : (hS G r).toNat = k := (by omega); unfold LF at hk; rw [e] at hk; exact hk)
    ·
      refine seg 5 (show Wp 82 0 [some (vR 32), some (vI r), some (vI (k : Int))] [] μ (fun rr μ' => Wp 111 28 [some (vR 0), some (vI o), some (vI r), some (vI (bs (fun k => (og G s r k).1 = o) k)), some (vI (k : Int))] (rr.toList ++ []) μ' R) from ?_)
      refine o82 hh (by omega) (by omega) ?_
      refine seg 2 (show (¬ ((og G s r (k : Int)).1 = o) → Wp 111 39 [some (vR 0), some (vI o), some (vI r), some (vI (bs (fun k => (og G s r k).1 = o) k)), some (vI (k : Int))] [] μ R) ∧ ((og G s r (k : Int)).1 = o → Wp 111 32 [some (vR 0), some (vI o), some (vI r), some (vI (bs (fun k => (og G s r k).1 = o) k)), some (vI (k : Int))] [] μ R) from ⟨fun c2 => ?_, fun c2 => ?_⟩)
      ·
        refine seg 2 (show iR ((k : Int) + 1) ∧ Wp 111 5 [some (vR 0), some (vI o), some (vI r), some (vI (bs (fun k => (og G s r k).1 = o) k)), some (vI ((k : Int) + 1))] [] μ R from ⟨by omega, ?_⟩)
        exfalso; omega
      ·
        refine seg 8 (show (0 ≤ 1 ∧ 0 ≤ (k : Int) ∧ (k : Int) < 31 ∧ 1 * 2 ^ ((k : Int) : Int).toNat ≤ 2147483647) ∧ (0 ≤ (bs (fun k => (og G s r k).1 = o) k) ∧ 0 ≤ (1 * 2 ^ ((k : Int) : Int).toNat)) ∧ iR ((k : Int) + 1) ∧ Wp 111 5 [some (vR 0), some (vI o), some (vI r), some (vI ((Int.toNat (bs (fun k => (og G s r k).1 = o) k) ||| Int.toNat (1 * 2 ^ ((k : Int) : Int).toNat) : Nat) : Int)), some (vI ((k : Int) + 1))] [] μ R from ⟨by omega, by omega, by omega, ?_⟩)
        exfalso; omega
  | succ n ih =>
    intro k  hm
    have hp : k < 8 → 1 * 2 ^ ((k : Int)).toNat ≤ (128 : Int) ∧ (0 : Int) ≤ 1 * 2 ^ ((k : Int)).toNat := fun z => pw_le (k := (k : Int)) (by omega)
    have hb := bs_nn (fun k => (og G s r k).1 = o) k
    refine seg 5 (show Wp 46 0 [some (vR 8), some (vI r)] [] μ (fun rr μ' => Wp 111 15 [some (vR 0), some (vI o), some (vI r), some (vI (bs (fun k => (og G s r k).1 = o) k)), some (vI (k : Int))] (rr.toList ++ [vI (k : Int)]) μ' R) from ?_)
    refine g46 hh.1.1 (by omega) ?_
    refine seg 1 (show (hS G r ≤ (k : Int) → Wp 111 45 [some (vR 0), some (vI o), some (vI r), some (vI (bs (fun k => (og G s r k).1 = o) k)), some (vI (k : Int))] [] μ R) ∧ (¬ (hS G r ≤ (k : Int)) → Wp 111 18 [some (vR 0), some (vI o), some (vI r), some (vI (bs (fun k => (og G s r k).1 = o) k)), some (vI (k : Int))] [] μ R) from ⟨fun c3 => ?_, fun c3 => ?_⟩)
    ·
      refine seg 2 (show R (some (vI (bs (fun k => (og G s r k).1 = o) k))) μ from ?_)
      first | (exfalso; omega) | (have e : (hS G r).toNat = k := (by omega); unfold LF at hk; rw [e] at hk; exact hk)
    ·
      refine seg 5 (show Wp 82 0 [some (vR 32), some (vI r), some (vI (k : Int))] [] μ (fun rr μ' => Wp 111 28 [some (vR 0), some (vI o), some (vI r), some (vI (bs (fun k => (og G s r k).1 = o) k)), some (vI (k : Int))] (rr.toList ++ []) μ' R) from ?_)
      refine o82 hh (by omega) (by omega) ?_
      refine seg 2 (show (¬ ((og G s r (k : Int)).1 = o) → Wp 111 39 [some (vR 0), some (vI o), some (vI r), some (vI (bs (fun k => (og G s r k).1 = o) k)), some (vI (k : Int))] [] μ R) ∧ ((og G s r (k : Int)).1 = o → Wp 111 32 [some (vR 0), some (vI o), some (vI r), some (vI (bs (fun k => (og G s r k).1 = o) k)), some (vI (k : Int))] [] μ R) from ⟨fun c4 => ?_, fun c4 => ?_⟩)
      ·
        refine seg 2 (show iR ((k : Int) + 1) ∧ Wp 111 5 [some (vR 0), some (vI o), some (vI r), some (vI (bs (fun k => (og G s r k).1 = o) k)), some (vI ((k : Int) + 1))] [] μ R from ⟨by omega, ?_⟩)
        have := ih (k + 1)  (by omega)
        first | rw [bs_y (P := (fun k => (og G s r k).1 = o)) (by first | assumption | exact Or.inl (by assumption) | exact Or.inr ⟨by assumption, by omega⟩)] at this | rw [bs_n (P := (fun k => (og G s r k).1 = o)) (by first | assumption | (intro z; rcases z with z | z <;> omega) | omega)] at this
        exact this
      ·
        refine seg 8 (show (0 ≤ 1 ∧ 0 ≤ (k : Int) ∧ (k : Int) < 31 ∧ 1 * 2 ^ ((k : Int) : Int).toNat ≤ 2147483647) ∧ (0 ≤ (bs (fun k => (og G s r k).1 = o) k) ∧ 0 ≤ (1 * 2 ^ ((k : Int) : Int).toNat)) ∧ iR ((k : Int) + 1) ∧ Wp 111 5 [some (vR 0), some (vI o), some (vI r), some (vI ((Int.toNat (bs (fun k => (og G s r k).1 = o) k) ||| Int.toNat (1 * 2 ^ ((k : Int) : Int).toNat) : Nat) : Int)), some (vI ((k : Int) + 1))] [] μ R from ⟨by omega, by omega, by omega, ?_⟩)
        have := ih (k + 1)  (by omega)
        first | rw [bs_y (P := (fun k => (og G s r k).1 = o)) (by first | assumption | exact Or.inl (by assumption) | exact Or.inr ⟨by assumption, by omega⟩)] at this | rw [bs_n (P := (fun k => (og G s r k).1 = o)) (by first | assumption | (intro z; rcases z with z | z <;> omega) | omega)] at this
        exact this
theorem s111 {G : Hi} {s : Se} {R : Po} {μ : Mu} {o r : Int} (hh : RH G s μ) (hr : 0 ≤ r ∧ r < hN G) (hk : R (some (vI (LF G s o r))) μ) : Wp 111 0 [some (vR 0), some (vI o), some (vI r), none, none] [] μ R := by
  have hsr := hh.1.1.1.s hr
  refine seg 4 (show Wp 111 5 [some (vR 0), some (vI o), some (vI r), some (vI 0), some (vI 0)] [] μ R from ?_)
  exact l111 hh hr hk (hS G r).toNat 0 (by omega)
theorem l112 {G : Hi} {s : Se} {R : Po} {μ : Mu} {r l : Int} (hh : RH G s μ) (hr : 0 ≤ r ∧ r < hN G) (hk : R (some (vI (OL G s r l))) μ) : ∀ (n k : Nat) (o6 : Option PV), hS G r - (k : Int) = n → Wp 112 16 [some (vR 0), some (vI r), some (vI l), some (vI ((og G s r l).1)), some (vI (cn (fun k => (og G s r k).1 < (og G s r l).1 ∨ ((og G s r k).1 = (og G s r l).1 ∧ k < l)) k)), some (vI (k : Int)), o6] [] μ R := by
  have hn := hh.1.1.1.n
  have hsr := hh.1.1.1.s hr
  intro n
  induction n with
  | zero =>
    intro k o6 hm
    have hb := cn_rg (fun k => (og G s r k).1 < (og G s r l).1 ∨ ((og G s r k).1 = (og G s r l).1 ∧ k < l)) k
    refine seg 5 (show Wp 46 0 [some (vR 8), some (vI r)] [] μ (fun rr μ' => Wp 112 26 [some (vR 0), some (vI r), some (vI l), some (vI ((og G s r l).1)), some (vI (cn (fun k => (og G s r k).1 < (og G s r l).1 ∨ ((og G s r k).1 = (og G s r l).1 ∧ k < l)) k)), some (vI (k : Int)), o6] (rr.toList ++ [vI (k : Int)]) μ' R) from ?_)
    refine g46 hh.1.1 (by omega) ?_
    refine seg 1 (show (hS G r ≤ (k : Int) → Wp 112 68 [some (vR 0), some (vI r), some (vI l), some (vI ((og G s r l).1)), some (vI (cn (fun k => (og G s r k).1 < (og G s r l).1 ∨ ((og G s r k).1 = (og G s r l).1 ∧ k < l)) k)), some (vI (k : Int)), o6] [] μ R) ∧ (¬ (hS G r ≤ (k : Int)) → Wp 112 29 [some (vR 0), some (vI r), some (vI l), some (vI ((og G s r l).1)), some (vI (cn (fun k => (og G s r k).1 < (og G s r l).1 ∨ ((og G s r k).1 = (og G s r l).1 ∧ k < l)) k)), some (vI (k : Int)), o6] [] μ R) from ⟨fun c1 => ?_, fun c1 => ?_⟩)
    ·
      refine seg 2 (show R (some (vI (cn (fun k => (og G s r k).1 < (og G s r l).1 ∨ ((og G s r k).1 = (og G s r l).1 ∧ k < l)) k))) μ from ?_)
      first | (exfalso; omega) | (have e : (hS G r).toNat = k := (by omega); unfold OL at hk; rw [e] at hk; exact hk)
    ·
      refine seg 5 (show Wp 82 0 [some (vR 32), some (vI r), some (vI (k : Int))] [] μ (fun rr μ' => Wp 112 39 [some (vR 0), some (vI r), some (vI l), some (vI ((og G s r l).1)), some (vI (cn (fun k => (og G s r k).1 < (og G s r l).1 ∨ ((og G s r k).1 = (og G s r l).1 ∧ k < l)) k)), some (vI (k : Int)), o6] (rr.toList ++ []) μ' R) from ?_)
      refine o82 hh (by omega) (by omega) ?_
      refine seg 4 (show ((og G s r (k : Int)).1 < (og G s r l).1 → Wp 112 59 [some (vR 0), some (vI r), some (vI l), some (vI ((og G s r l).1)), some (vI (cn (fun k => (og G s r k).1 < (og G s r l).1 ∨ ((og G s r k).1 = (og G s r l).1 ∧ k < l)) k)), some (vI (k : Int)), some (vI ((og G s r (k : Int)).1))] [] μ R) ∧ (¬ ((og G s r (k : Int)).1 < (og G s r l).1) → Wp 112 47 [some (vR 0), some (vI r), some (vI l), some (vI ((og G s r l).1)), some (vI (cn (fun k => (og G s r k).1 < (og G s r l).1 ∨ ((og G s r k).1 = (og G s r l).1 ∧ k < l)) k)), some (vI (k : Int)), some (vI ((og G s r (k : Int)).1))] [] μ R) from ⟨fun c2 => ?_, fun c2 => ?_⟩)
      ·
        refine seg 3 (show iR ((cn (fun k => (og G s r k).1 < (og G s r l).1 ∨ ((og G s r k).1 = (og G s r l).1 ∧ k < l)) k) + 1) ∧ iR ((k : Int) + 1) ∧ Wp 112 16 [some (vR 0), some (vI r), some (vI l), some (vI ((og G s r l).1)), some (vI ((cn (fun k => (og G s r k).1 < (og G s r l).1 ∨ ((og G s r k).1 = (og G s r l).1 ∧ k < l)) k) + 1)), some (vI ((k : Int) + 1)), some (vI ((og G s r (k : Int)).1))] [] μ R from ⟨by omega, by omega, ?_⟩)
        exfalso; omega
      ·
        refine seg 3 (show (¬ ((og G s r (k : Int)).1 = (og G s r l).1) → Wp 112 62 [some (vR 0), some (vI r), some (vI l), some (vI ((og G s r l).1)), some (vI (cn (fun k => (og G s r k).1 < (og G s r l).1 ∨ ((og G s r k).1 = (og G s r l).1 ∧ k < l)) k)), some (vI (k : Int)), some (vI ((og G s r (k : Int)).1))] [] μ R) ∧ ((og G s r (k : Int)).1 = (og G s r l).1 → Wp 112 53 [some (vR 0), some (vI r), some (vI l), some (vI ((og G s r l).1)), some (vI (cn (fun k => (og G s r k).1 < (og G s r l).1 ∨ ((og G s r k).1 = (og G s r l).1 ∧ k < l)) k)), some (vI (k : Int)), some (vI ((og G s r (k : Int)).1))] [] μ R) from ⟨fun c3 => ?_, fun c3 => ?_⟩)
        ·
          refine seg 2 (show iR ((k : Int) + 1) ∧ Wp 112 16 [some (vR 0), some (vI r), some (vI l), some (vI ((og G s r l).1)), some (vI (cn (fun k => (og G s r k).1 < (og G s r l).1 ∨ ((og G s r k).1 = (og G s r l).1 ∧ k < l)) k)), some (vI ((k : Int) + 1)), some (vI ((og G s r (k : Int)).1))] [] μ R from ⟨by omega, ?_⟩)
          exfalso; omega
        ·
          refine seg 3 (show (l ≤ (k : Int) → Wp 112 62 [some (vR 0), some (vI r), some (vI l), some (vI ((og G s r l).1)), some (vI (cn (fun k => (og G s r k).1 < (og G s r l).1 ∨ ((og G s r k).1 = (og G s r l).1 ∧ k < l)) k)), some (vI (k : Int)), some (vI ((og G s r (k : Int)).1))] [] μ R) ∧ (¬ (l ≤ (k : Int)) → Wp 112 59 [some (vR 0), some (vI r), some (vI l), some (vI ((og G s r l).1)), some (vI (cn (fun k => (og G s r k).1 < (og G s r l).1 ∨ ((og G s r k).1 = (og G s r l).1 ∧ k < l)) k)), some (vI (k : Int)), some (vI ((og G s r (k : Int)).1))] [] μ R) from ⟨fun c4 => ?_, fun c4 => ?_⟩)
          ·
            refine seg 2 (show iR ((k : Int) + 1) ∧ Wp 112 16 [some (vR 0), some (vI r), some (vI l), some (vI ((og G s r l).1)), some (vI (cn (fun k => (og G s r k).1 < (og G s r l).1 ∨ ((og G s r k).1 = (og G s r l).1 ∧ k < l)) k)), some (vI ((k : Int) + 1)), some (vI ((og G s r (k : Int)).1))] [] μ R from ⟨by omega, ?_⟩)
            exfalso; omega
          ·
            refine seg 3 (show iR ((cn (fun k => (og G s r k).1 < (og G s r l).1 ∨ ((og G s r k).1 = (og G s r l).1 ∧ k < l)) k) + 1) ∧ iR ((k : Int) + 1) ∧ Wp 112 16 [some (vR 0), some (vI r), some (vI l), some (vI ((og G s r l).1)), some (vI ((cn (fun k => (og G s r k).1 < (og G s r l).1 ∨ ((og G s r k).1 = (og G s r l).1 ∧ k < l)) k) + 1)), some (vI ((k : Int) + 1)), some (vI ((og G s r (k : Int)).1))] [] μ R from ⟨by omega, by omega, ?_⟩)
            exfalso; omega
  | succ n ih =>
    intro k o6 hm
    have hb := cn_rg (fun k => (og G s r k).1 < (og G s r l).1 ∨ ((og G s r k).1 = (og G s r l).1 ∧ k < l)) k
    refine seg 5 (show Wp 46 0 [some (vR 8), some (vI r)] [] μ (fun rr μ' => Wp 112 26 [some (vR 0), some (vI r), some (vI l), some (vI ((og G s r l).1)), some (vI (cn (fun k => (og G s r k).1 < (og G s r l).1 ∨ ((og G s r k).1 = (og G s r l).1 ∧ k < l)) k)), some (vI (k : Int)), o6] (rr.toList ++ [vI (k : Int)]) μ' R) from ?_)
    refine g46 hh.1.1 (by omega) ?_
    refine seg 1 (show (hS G r ≤ (k : Int) → Wp 112 68 [some (vR 0), some (vI r), some (vI l), some (vI ((og G s r l).1)), some (vI (cn (fun k => (og G s r k).1 < (og G s r l).1 ∨ ((og G s r k).1 = (og G s r l).1 ∧ k < l)) k)), some (vI (k : Int)), o6] [] μ R) ∧ (¬ (hS G r ≤ (k : Int)) → Wp 112 29 [some (vR 0), some (vI r), some (vI l), some (vI ((og G s r l).1)), some (vI (cn (fun k => (og G s r k).1 < (og G s r l).1 ∨ ((og G s r k).1 = (og G s r l).1 ∧ k < l)) k)), some (vI (k : Int)), o6] [] μ R) from ⟨fun c5 => ?_, fun c5 => ?_⟩)
    ·
      refine seg 2 (show R (some (vI (cn (fun k => (og G s r k).1 < (og G s r l).1 ∨ ((og G s r k).1 = (og G s r l).1 ∧ k < l)) k))) μ from ?_)
      first | (exfalso; omega) | (have e : (hS G r).toNat = k := (by omega); unfold OL at hk; rw [e] at hk; exact hk)
    ·
      refine seg 5 (show Wp 82 0 [some (vR 32), some (vI r), some (vI (k : Int))] [] μ (fun rr μ' => Wp 112 39 [some (vR 0), some (vI r), some (vI l), some (vI ((og G s r l).1)), some (vI (cn (fun k => (og G s r k).1 < (og G s r l).1 ∨ ((og G s r k).1 = (og G s r l).1 ∧ k < l)) k)), some (vI (k : Int)), o6] (rr.toList ++ []) μ' R) from ?_)
      refine o82 hh (by omega) (by omega) ?_
      refine seg 4 (show ((og G s r (k : Int)).1 < (og G s r l).1 → Wp 112 59 [some (vR 0), some (vI r), some (vI l), some (vI ((og G s r l).1)), some (vI (cn (fun k => (og G s r k).1 < (og G s r l).1 ∨ ((og G s r k).1 = (og G s r l).1 ∧ k < l)) k)), some (vI (k : Int)), some (vI ((og G s r (k : Int)).1))] [] μ R) ∧ (¬ ((og G s r (k : Int)).1 < (og G s r l).1) → Wp 112 47 [some (vR 0), some (vI r), some (vI l), some (vI ((og G s r l).1)), some (vI (cn (fun k => (og G s r k).1 < (og G s r l).1 ∨ ((og G s r k).1 = (og G s r l).1 ∧ k < l)) k)), some (vI (k : Int)), some (vI ((og G s r (k : Int)).1))] [] μ R) from ⟨fun c6 => ?_, fun c6 => ?_⟩)
      ·
        refine seg 3 (show iR ((cn (fun k => (og G s r k).1 < (og G s r l).1 ∨ ((og G s r k).1 = (og G s r l).1 ∧ k < l)) k) + 1) ∧ iR ((k : Int) + 1) ∧ Wp 112 16 [some (vR 0), some (vI r), some (vI l), some (vI ((og G s r l).1)), some (vI ((cn (fun k => (og G s r k).1 < (og G s r l).1 ∨ ((og G s r k).1 = (og G s r l).1 ∧ k < l)) k) + 1)), some (vI ((k : Int) + 1)), some (vI ((og G s r (k : Int)).1))] [] μ R from ⟨by omega, by omega, ?_⟩)
        have := ih (k + 1) (some (vI ((og G s r (k : Int)).1))) (by omega)
        first | rw [cn_y (P := (fun k => (og G s r k).1 < (og G s r l).1 ∨ ((og G s r k).1 = (og G s r l).1 ∧ k < l))) (by first | assumption | exact Or.inl (by assumption) | exact Or.inr ⟨by assumption, by omega⟩)] at this | rw [cn_n (P := (fun k => (og G s r k).1 < (og G s r l).1 ∨ ((og G s r k).1 = (og G s r l).1 ∧ k < l))) (by first | assumption | (intro z; rcases z with z | z <;> omega) | omega)] at this
        exact this
      ·
        refine seg 3 (show (¬ ((og G s r (k : Int)).1 = (og G s r l).1) → Wp 112 62 [some (vR 0), some (vI r), some (vI l), some (vI ((og G s r l).1)), some (vI (cn (fun k => (og G s r k).1 < (og G s r l).1 ∨ ((og G s r k).1 = (og G s r l).1 ∧ k < l)) k)), some (vI (k : Int)), some (vI ((og G s r (k : Int)).1))] [] μ R) ∧ ((og G s r (k : Int)).1 = (og G s r l).1 → Wp 112 53 [some (vR 0), some (vI r), some (vI l), some (vI ((og G s r l).1)), some (vI (cn (fun k => (og G s r k).1 < (og G s r l).1 ∨ ((og G s r k).1 = (og G s r l).1 ∧ k < l)) k)), some (vI (k : Int)), some (vI ((og G s r (k : Int)).1))] [] μ R) from ⟨fun c7 => ?_, fun c7 => ?_⟩)
        ·
          refine seg 2 (show iR ((k : Int) + 1) ∧ Wp 112 16 [some (vR 0), some (vI r), some (vI l), some (vI ((og G s r l).1)), some (vI (cn (fun k => (og G s r k).1 < (og G s r l).1 ∨ ((og G s r k).1 = (og G s r l).1 ∧ k < l)) k)), some (vI ((k : Int) + 1)), some (vI ((og G s r (k : Int)).1))] [] μ R from ⟨by omega, ?_⟩)
          have := ih (k + 1) (some (vI ((og G s r (k : Int)).1))) (by omega)
          first | rw [cn_y (P := (fun k => (og G s r k).1 < (og G s r l).1 ∨ ((og G s r k).1 = (og G s r l).1 ∧ k < l))) (by first | assumption | exact Or.inl (by assumption) | exact Or.inr ⟨by assumption, by omega⟩)] at this | rw [cn_n (P := (fun k => (og G s r k).1 < (og G s r l).1 ∨ ((og G s r k).1 = (og G s r l).1 ∧ k < l))) (by first | assumption | (intro z; rcases z with z | z <;> omega) | omega)] at this
          exact this
        ·
          refine seg 3 (show (l ≤ (k : Int) → Wp 112 62 [some (vR 0), some (vI r), some (vI l), some (vI ((og G s r l).1)), some (vI (cn (fun k => (og G s r k).1 < (og G s r l).1 ∨ ((og G s r k).1 = (og G s r l).1 ∧ k < l)) k)), some (vI (k : Int)), some (vI ((og G s r (k : Int)).1))] [] μ R) ∧ (¬ (l ≤ (k : Int)) → Wp 112 59 [some (vR 0), some (vI r), some (vI l), some (vI ((og G s r l).1)), some (vI (cn (fun k => (og G s r k).1 < (og G s r l).1 ∨ ((og G s r k).1 = (og G s r l).1 ∧ k < l)) k)), some (vI (k : Int)), some (vI ((og G s r (k : Int)).1))] [] μ R) from ⟨fun c8 => ?_, fun c8 => ?_⟩)
          ·
            refine seg 2 (show iR ((k : Int) + 1) ∧ Wp 112 16 [some (vR 0), some (vI r), some (vI l), some (vI ((og G s r l).1)), some (vI (cn (fun k => (og G s r k).1 < (og G s r l).1 ∨ ((og G s r k).1 = (og G s r l).1 ∧ k < l)) k)), some (vI ((k : Int) + 1)), some (vI ((og G s r (k : Int)).1))] [] μ R from ⟨by omega, ?_⟩)
            have := ih (k + 1) (some (vI ((og G s r (k : Int)).1))) (by omega)
            first | rw [cn_y (P := (fun k => (og G s r k).1 < (og G s r l).1 ∨ ((og G s r k).1 = (og G s r l).1 ∧ k < l))) (by first | assumption | exact Or.inl (by assumption) | exact Or.inr ⟨by assumption, by omega⟩)] at this | rw [cn_n (P := (fun k => (og G s r k).1 < (og G s r l).1 ∨ ((og G s r k).1 = (og G s r l).1 ∧ k < l))) (by first | assumption | (intro z; rcases z with z | z <;> omega) | omega)] at this
            exact this
          ·
            refine seg 3 (show iR ((cn (fun k => (og G s r k).1 < (og G s r l).1 ∨ ((og G s r k).1 = (og G s r l).1 ∧ k < l)) k) + 1) ∧ iR ((k : Int) + 1) ∧ Wp 112 16 [some (vR 0), some (vI r), some (vI l), some (vI ((og G s r l).1)), some (vI ((cn (fun k => (og G s r k).1 < (og G s r l).1 ∨ ((og G s r k).1 = (og G s r l).1 ∧ k < l)) k) + 1)), some (vI ((k : Int) + 1)), some (vI ((og G s r (k : Int)).1))] [] μ R from ⟨by omega, by omega, ?_⟩)
            have := ih (k + 1) (some (vI ((og G s r (k : Int)).1))) (by omega)
            first | rw [cn_y (P := (fun k => (og G s r k).1 < (og G s r l).1 ∨ ((og G s r k).1 = (og G s r l).1 ∧ k < l))) (by first | assumption | exact Or.inl (by assumption) | exact Or.inr ⟨by assumption, by omega⟩)] at this | rw [cn_n (P := (fun k => (og G s r k).1 < (og G s r l).1 ∨ ((og G s r k).1 = (og G s r l).1 ∧ k < l))) (by first | assumption | (intro z; rcases z with z | z <;> omega) | omega)] at this
            exact this
end
section
/-! the class's public methods: what is asked -/
noncomputable def aRev (G : Hi) (s : Se) (r what : Int) : Int := if 0 ≤ r ∧ r < hN G then (if what = 0 then hS G r else if what = 1 then hP G r 0 else if what = 2 then hP G r 1 else if what = 3 then (if tb s.2.1 r then 1 else 0) else -1) else -1
abbrev vLn (G : Hi) (r k : Int) : Prop := 0 ≤ r ∧ r < hN G ∧ 0 ≤ k ∧ k < hS G r
noncomputable def aLine (G : Hi) (s : Se) (r k what : Int) : Int := if vLn G r k then (if what = 0 then hL G r k else if what = 1 then pr G r 0 k else if what = 2 then pr G r 1 k else if what = 3 then ru G s r k else if what = 4 then (og G s r k).1 / 8 else if what = 5 then (og G s r k).1 % 8 else if what = 6 then (og G s r k).2 else -1) else -1
noncomputable def aGives (G : Hi) (s : Se) (rule r k : Int) : Int := if (0 ≤ rule ∧ rule < 4) ∧ vLn G r k then gv G s rule r k else -1
noncomputable def aBegun (G : Hi) (s : Se) (r f : Int) : Int := if (0 ≤ r ∧ r < hN G) ∧ (0 ≤ f ∧ f < hN G) then bs (fun k => (og G s r k).1 / 8 = f) (hS G r).toNat else -1
noncomputable def agF (G : Hi) (s : Se) (r k : Int) : Nat → Int → Int
  | 0, _ => -9
  | n + 1, l => if OL G s r l = k then l else agF G s r k n (l + 1)
noncomputable def aAge (G : Hi) (s : Se) (r k : Int) : Int := if (0 ≤ r ∧ r < hN G) ∧ 0 ≤ k then agF G s r k (hS G r).toNat 0 else -1
noncomputable def aLike (G : Hi) (s : Se) (r k o : Int) : Int := if vLn G r k ∧ (0 ≤ o ∧ o < hN G) then LF G s (og G s r k).1 o else -1
noncomputable def aCarr (G : Hi) (s : Se) (r k : Int) : Int := if vLn G r k then bs (fun q => LF G s (r * 8 + k) q ≠ 0) (hN G).toNat else -1
noncomputable def aKept (G : Hi) (s : Se) (r o : Int) : Int := if (0 ≤ r ∧ r < hN G) ∧ (0 ≤ o ∧ o < hN G) then cn (fun k => LF G s (r * 8 + k) o ≠ 0) (hS G r).toNat else -1
def aComm (G : Hi) (r w : Int) : Int := if (0 ≤ r ∧ r < hN G) ∧ (0 ≤ w ∧ w < 2) then cmA G r w else -1
noncomputable def aUns (G : Hi) (s : Se) (N : Sn) : Int := bs (fun r => SO G (tP s r) N N.1) (hN G).toNat
noncomputable def aCnt (G : Hi) (T : Tx) (s : Se) (U : Un) (N : Sn) (what : Int) : Int := if what = 0 then hN G else if what = 1 then s.1 else if what = 2 then s.2.1 else if what = 3 then s.2.2 else if what = 4 then SZs G (hN G).toNat else if what = 5 then OWs G s (hN G).toNat else if what = 6 then N.1 else if what = 7 then T.1 else if what = 8 then U.1 else -1
theorem q64 {s : Se} {μ : Mu} {R : Po} {r : Int} (hs : SeC s (μ 30)) (hok : SeOK s) (hb : 0 ≤ r ∧ r < 8) (hy : tb s.2.1 r → R (some (vI 1)) μ) (hn : ¬ tb s.2.1 r → R (some (vI 0)) μ) : Wp 64 0 [some (vR 30), some (vI r)] [] μ R := s64_30 hb (by rw [hs.2.1]; exact hok.2.1.1) (by rw [hs.2.1]; exact hy) (by rw [hs.2.1]; exact hn)
theorem q67 {s : Se} {μ : Mu} {R : Po} {r : Int} (hs : SeC s (μ 30)) (hok : SeOK s) (hb : 0 ≤ r ∧ r < 8) (hy : tb s.2.2 r → R (some (vI 1)) μ) (hn : ¬ tb s.2.2 r → R (some (vI 0)) μ) : Wp 67 0 [some (vR 30), some (vI r)] [] μ R := s67_30 hb (by rw [hs.2.2]; exact hok.2.2.1) (by rw [hs.2.2]; exact hy) (by rw [hs.2.2]; exact hn)
theorem k60 {s : Se} {μ : Mu} {R : Po} (hs : SeC s (μ 30)) (h : R (some (vI s.1)) μ) : Wp 60 0 [some (vR 30)] [] μ R := s60_30 (by rw [hs.1]; exact h)
theorem k63 {s : Se} {μ : Mu} {R : Po} (hs : SeC s (μ 30)) (h : R (some (vI s.2.1)) μ) : Wp 63 0 [some (vR 30)] [] μ R := s63_30 (by rw [hs.2.1]; exact h)
theorem k66 {s : Se} {μ : Mu} {R : Po} (hs : SeC s (μ 30)) (h : R (some (vI s.2.2)) μ) : Wp 66 0 [some (vR 30)] [] μ R := s66_30 (by rw [hs.2.2]; exact h)
theorem k70 {G : Hi} {N : Sn} {μ : Mu} {R : Po} (hs : RN G N μ) (h : R (some (vI N.1)) μ) : Wp 70 0 [some (vR 42)] [] μ R := s70 (by rw [hs.1]; exact h)
theorem k75 {T : Tx} {μ : Mu} {R : Po} (hs : RT T μ) (h : R (some (vI T.1)) μ) : Wp 75 0 [some (vR 1)] [] μ R := s75 (by rw [hs.1]; exact h)
theorem k1 {U : Un} {μ : Mu} {R : Po} (hs : RU U μ) (h : R (some (vI U.1)) μ) : Wp 1 0 [some (vR 40)] [] μ R := s1 (by rw [hs.1]; exact h)
theorem c91 {G : Hi} {T : Tx} {s : Se} {U : Un} {im : Int → Option Se} {N : Sn} {R : Po} {μ : Mu} (hrc : RC G T s U im N μ) {r what : Int} (h : R (some (vI (aRev G s r what))) μ) : Wp 91 0 [some (vR 0), some (vI r), some (vI what)] [] μ R := by
  have hh := hrc.1
  have hg := hh.1
  have hc := hg.1
  have hn := hc.1.n
  have hs := hh.2.1
  have hok := hh.2.2.1
  refine seg 4 (show Wp 44 0 [some (vR 8), some (vI r)] [] μ (fun rr μ' => Wp 91 8 [some (vR 0), some (vI r), some (vI what)] (rr.toList ++ []) μ' R) from ?_)
  refine g44 hc (fun b1 => ?_) (fun b1 => ?_)
  ·
    refine seg 1 (show (¬ (1 = 0) → Wp 91 13 [some (vR 0), some (vI r), some (vI what)] [] μ R) ∧ (1 = 0 → Wp 91 11 [some (vR 0), some (vI r), some (vI what)] [] μ R) from ⟨fun _ => ?_, fun z => absurd z (by decide)⟩)
    refine seg 2 (show (∀ j : Nat, j < 4 → what = 0 + (j : Int) → Wp 91 ([90, 44, 53, 63, 73].getD (1 + j) 0) [some (vR 0), some (vI r), some (vI what)] [] μ R) ∧ (what < 0 ∨ 3 < what → Wp 91 90 [some (vR 0), some (vI r), some (vI what)] [] μ R) from ⟨fun j hj c2 => ?_, fun c2 => ?_⟩)
    ·
      rcases (show j = 0 ∨ j = 1 ∨ j = 2 ∨ j = 3 by omega) with rfl | rfl | rfl | rfl
      ·
        refine seg 4 (show Wp 46 0 [some (vR 8), some (vI r)] [] μ (fun rr μ' => Wp 91 52 [some (vR 0), some (vI r), some (vI what)] (rr.toList ++ []) μ' R) from ?_)
        refine g46 hc (by omega) ?_
        refine seg 1 (show R (some (vI (hS G r))) μ from ?_)
        have e : aRev G s r what = hS G r := by
          unfold aRev
          repeat (first | rw [if_pos (by first | omega | assumption)] | rw [if_neg (by first | omega | assumption)])
        rw [← e]; exact h
      ·
        refine seg 5 (show Wp 47 0 [some (vR 8), some (vI r), some (vI 0)] [] μ (fun rr μ' => Wp 91 62 [some (vR 0), some (vI r), some (vI what)] (rr.toList ++ []) μ' R) from ?_)
        refine g47 hc (by omega) (by decide) ?_
        refine seg 1 (show R (some (vI (hP G r 0))) μ from ?_)
        have e : aRev G s r what = hP G r 0 := by
          unfold aRev
          repeat (first | rw [if_pos (by first | omega | assumption)] | rw [if_neg (by first | omega | assumption)])
        rw [← e]; exact h
      ·
        refine seg 5 (show Wp 47 0 [some (vR 8), some (vI r), some (vI 1)] [] μ (fun rr μ' => Wp 91 72 [some (vR 0), some (vI r), some (vI what)] (rr.toList ++ []) μ' R) from ?_)
        refine g47 hc (by omega) (by decide) ?_
        refine seg 1 (show R (some (vI (hP G r 1))) μ from ?_)
        have e : aRev G s r what = hP G r 1 := by
          unfold aRev
          repeat (first | rw [if_pos (by first | omega | assumption)] | rw [if_neg (by first | omega | assumption)])
        rw [← e]; exact h
      ·
        refine seg 4 (show Wp 64 0 [some (vR 30), some (vI r)] [] μ (fun rr μ' => Wp 91 81 [some (vR 0), some (vI r), some (vI what)] (rr.toList ++ []) μ' R) from ?_)
        refine q64 hs hok (by omega) (fun b3 => ?_) (fun b3 => ?_)
        ·
          refine seg 1 (show (1 = 0 → Wp 91 88 [some (vR 0), some (vI r), some (vI what)] [] μ R) ∧ (¬ (1 = 0) → Wp 91 84 [some (vR 0), some (vI r), some (vI what)] [] μ R) from ⟨fun z => absurd z (by decide), fun _ => ?_⟩)
          refine seg 3 (show R (some (vI 1)) μ from ?_)
          have e : aRev G s r what = 1 := by
            unfold aRev
            repeat (first | rw [if_pos (by first | omega | assumption)] | rw [if_neg (by first | omega | assumption)])
          rw [← e]; exact h
        ·
          refine seg 1 (show (0 = 0 → Wp 91 88 [some (vR 0), some (vI r), some (vI what)] [] μ R) ∧ (¬ (0 = 0) → Wp 91 84 [some (vR 0), some (vI r), some (vI what)] [] μ R) from ⟨fun _ => ?_, fun z => absurd z (by decide)⟩)
          refine seg 2 (show R (some (vI 0)) μ from ?_)
          have e : aRev G s r what = 0 := by
            unfold aRev
            repeat (first | rw [if_pos (by first | omega | assumption)] | rw [if_neg (by first | omega | assumption)])
          rw [← e]; exact h
    ·
      refine seg 2 (show R (some (vI (-1))) μ from ?_)
      have e : aRev G s r what = -1 := by
        unfold aRev
        repeat (first | rw [if_pos (by first | omega | assumption)] | rw [if_neg (by first | omega | assumption)])
      rw [← e]; exact h
  ·
    refine seg 1 (show (¬ (0 = 0) → Wp 91 13 [some (vR 0), some (vI r), some (vI what)] [] μ R) ∧ (0 = 0 → Wp 91 11 [some (vR 0), some (vI r), some (vI what)] [] μ R) from ⟨fun z => absurd z (by decide), fun _ => ?_⟩)
    refine seg 2 (show R (some (vI (-1))) μ from ?_)
    have e : aRev G s r what = -1 := by
      unfold aRev
      repeat (first | rw [if_pos (by first | omega | assumption)] | rw [if_neg (by first | omega | assumption)])
    rw [← e]; exact h
theorem c92 {G : Hi} {T : Tx} {s : Se} {U : Un} {im : Int → Option Se} {N : Sn} {R : Po} {μ : Mu} (hrc : RC G T s U im N μ) {r k what : Int} (h : R (some (vI (aLine G s r k what))) μ) : Wp 92 0 [some (vR 0), some (vI r), some (vI k), some (vI what)] [] μ R := by
  have hh := hrc.1
  have hg := hh.1
  have hc := hg.1
  have hn := hc.1.n
  have hs := hh.2.1
  have hok := hh.2.2.1
  refine seg 5 (show Wp 45 0 [some (vR 8), some (vI r), some (vI k)] [] μ (fun rr μ' => Wp 92 9 [some (vR 0), some (vI r), some (vI k), some (vI what)] (rr.toList ++ []) μ' R) from ?_)
  refine g45 hc (fun b1 => ?_) (fun b1 => ?_)
  ·
    refine seg 1 (show (¬ (1 = 0) → Wp 92 14 [some (vR 0), some (vI r), some (vI k), some (vI what)] [] μ R) ∧ (1 = 0 → Wp 92 12 [some (vR 0), some (vI r), some (vI k), some (vI what)] [] μ R) from ⟨fun _ => ?_, fun z => absurd z (by decide)⟩)
    refine seg 2 (show (∀ j : Nat, j < 7 → what = 0 + (j : Int) → Wp 92 ([134, 56, 66, 77, 88, 98, 111, 124].getD (1 + j) 0) [some (vR 0), some (vI r), some (vI k), some (vI what)] [] μ R) ∧ (what < 0 ∨ 6 < what → Wp 92 134 [some (vR 0), some (vI r), some (vI k), some (vI what)] [] μ R) from ⟨fun j hj c2 => ?_, fun c2 => ?_⟩)
    ·
      rcases (show j = 0 ∨ j = 1 ∨ j = 2 ∨ j = 3 ∨ j = 4 ∨ j = 5 ∨ j = 6 by omega) with rfl | rfl | rfl | rfl | rfl | rfl | rfl
      ·
        refine seg 5 (show Wp 48 0 [some (vR 8), some (vI r), some (vI k)] [] μ (fun rr μ' => Wp 92 65 [some (vR 0), some (vI r), some (vI k), some (vI what)] (rr.toList ++ []) μ' R) from ?_)
        refine g48 hc (by omega) (by omega) ?_
        refine seg 1 (show R (some (vI (hL G r k))) μ from ?_)
        have e : aLine G s r k what = hL G r k := by
          unfold aLine
          repeat (first | rw [if_pos (by first | omega | assumption)] | rw [if_neg (by first | omega | assumption)])
        rw [← e]; exact h
      ·
        refine seg 6 (show Wp 31 0 [some (vR 12), some (vI 0), some (vI r), some (vI k)] [] μ (fun rr μ' => Wp 92 76 [some (vR 0), some (vI r), some (vI k), some (vI what)] (rr.toList ++ []) μ' R) from ?_)
        refine s31 hg (by omega) (by have := hc.1.s (r := r) (by omega); omega) (by decide) ?_
        refine seg 1 (show R (some (vI (pr G r 0 k))) μ from ?_)
        have e : aLine G s r k what = pr G r 0 k := by
          unfold aLine
          repeat (first | rw [if_pos (by first | omega | assumption)] | rw [if_neg (by first | omega | assumption)])
        rw [← e]; exact h
      ·
        refine seg 6 (show Wp 31 0 [some (vR 12), some (vI 1), some (vI r), some (vI k)] [] μ (fun rr μ' => Wp 92 87 [some (vR 0), some (vI r), some (vI k), some (vI what)] (rr.toList ++ []) μ' R) from ?_)
        refine s31 hg (by omega) (by have := hc.1.s (r := r) (by omega); omega) (by decide) ?_
        refine seg 1 (show R (some (vI (pr G r 1 k))) μ from ?_)
        have e : aLine G s r k what = pr G r 1 k := by
          unfold aLine
          repeat (first | rw [if_pos (by first | omega | assumption)] | rw [if_neg (by first | omega | assumption)])
        rw [← e]; exact h
      ·
        refine seg 5 (show Wp 84 0 [some (vR 32), some (vI r), some (vI k)] [] μ (fun rr μ' => Wp 92 97 [some (vR 0), some (vI r), some (vI k), some (vI what)] (rr.toList ++ []) μ' R) from ?_)
        refine s84v_32 (by have := hc.1.s (r := r) (by omega); omega) ?_
        refine seg 1 (show R (some (vI (μ 35 (r * 8 + k)))) μ from ?_)
        have t := (hh.2.2.2.1 r k (by omega) (by omega) (by omega) (by omega)).2.2
        rw [t]
        have e : aLine G s r k what = ru G s r k := by
          unfold aLine
          repeat (first | rw [if_pos (by first | omega | assumption)] | rw [if_neg (by first | omega | assumption)])
        rw [← e]; exact h
      ·
        refine seg 5 (show Wp 82 0 [some (vR 32), some (vI r), some (vI k)] [] μ (fun rr μ' => Wp 92 107 [some (vR 0), some (vI r), some (vI k), some (vI what)] (rr.toList ++ []) μ' R) from ?_)
        refine o82 hh (by omega) (by omega) ?_
        refine seg 3 (show (0 ≤ ((og G s r k).1) ∧ 0 < 8) ∧ R (some (vI (((og G s r k).1) / 8))) μ from ⟨by first | omega | (have := og_lt hc.1 s (r := r) (k := k) (by omega) (by omega); omega), ?_⟩)
        have e : aLine G s r k what = ((og G s r k).1) / 8 := by
          unfold aLine
          repeat (first | rw [if_pos (by first | omega | assumption)] | rw [if_neg (by first | omega | assumption)])
        rw [← e]; exact h
      ·
        refine seg 5 (show Wp 82 0 [some (vR 32), some (vI r), some (vI k)] [] μ (fun rr μ' => Wp 92 120 [some (vR 0), some (vI r), some (vI k), some (vI what)] (rr.toList ++ []) μ' R) from ?_)
        refine o82 hh (by omega) (by omega) ?_
        refine seg 3 (show (0 ≤ ((og G s r k).1) ∧ 0 < 8) ∧ R (some (vI (((og G s r k).1) % 8))) μ from ⟨by first | omega | (have := og_lt hc.1 s (r := r) (k := k) (by omega) (by omega); omega), ?_⟩)
        have e : aLine G s r k what = ((og G s r k).1) % 8 := by
          unfold aLine
          repeat (first | rw [if_pos (by first | omega | assumption)] | rw [if_neg (by first | omega | assumption)])
        rw [← e]; exact h
      ·
        refine seg 5 (show Wp 83 0 [some (vR 32), some (vI r), some (vI k)] [] μ (fun rr μ' => Wp 92 133 [some (vR 0), some (vI r), some (vI k), some (vI what)] (rr.toList ++ []) μ' R) from ?_)
        refine s83v_32 (by have := hc.1.s (r := r) (by omega); omega) ?_
        refine seg 1 (show R (some (vI (μ 34 (r * 8 + k)))) μ from ?_)
        have t := (hh.2.2.2.1 r k (by omega) (by omega) (by omega) (by omega)).2.1
        rw [t]
        have e : aLine G s r k what = (og G s r k).2 := by
          unfold aLine
          repeat (first | rw [if_pos (by first | omega | assumption)] | rw [if_neg (by first | omega | assumption)])
        rw [← e]; exact h
    ·
      refine seg 2 (show R (some (vI (-1))) μ from ?_)
      have e : aLine G s r k what = -1 := by
        unfold aLine
        repeat (first | rw [if_pos (by first | omega | assumption)] | rw [if_neg (by first | omega | assumption)])
      rw [← e]; exact h
  ·
    refine seg 1 (show (¬ (0 = 0) → Wp 92 14 [some (vR 0), some (vI r), some (vI k), some (vI what)] [] μ R) ∧ (0 = 0 → Wp 92 12 [some (vR 0), some (vI r), some (vI k), some (vI what)] [] μ R) from ⟨fun z => absurd z (by decide), fun _ => ?_⟩)
    refine seg 2 (show R (some (vI (-1))) μ from ?_)
    have e : aLine G s r k what = -1 := by
      unfold aLine
      repeat (first | rw [if_pos (by first | omega | assumption)] | rw [if_neg (by first | omega | assumption)])
    rw [← e]; exact h
theorem c97 {G : Hi} {T : Tx} {s : Se} {U : Un} {im : Int → Option Se} {N : Sn} {R : Po} {μ : Mu} (hrc : RC G T s U im N μ) {rule r k : Int} (h : R (some (vI (aGives G s rule r k))) μ) : Wp 97 0 [some (vR 0), some (vI rule), some (vI r), some (vI k)] [] μ R := by
  have hh := hrc.1
  have hg := hh.1
  have hc := hg.1
  have hn := hc.1.n
  have hs := hh.2.1
  have hok := hh.2.2.1
  refine seg 2 (show (rule < 0 → Wp 97 21 [some (vR 0), some (vI rule), some (vI r), some (vI k)] [] μ R) ∧ (¬ (rule < 0) → Wp 97 4 [some (vR 0), some (vI rule), some (vI r), some (vI k)] [] μ R) from ⟨fun c1 => ?_, fun c1 => ?_⟩)
  ·
    refine seg 2 (show R (some (vI (-1))) μ from ?_)
    have e : aGives G s rule r k = -1 := by
      unfold aGives
      repeat (first | rw [if_pos (by first | omega | assumption)] | rw [if_neg (by first | omega | assumption)])
    rw [← e]; exact h
  ·
    refine seg 3 (show (4 ≤ rule → Wp 97 21 [some (vR 0), some (vI rule), some (vI r), some (vI k)] [] μ R) ∧ (¬ (4 ≤ rule) → Wp 97 9 [some (vR 0), some (vI rule), some (vI r), some (vI k)] [] μ R) from ⟨fun c2 => ?_, fun c2 => ?_⟩)
    ·
      refine seg 2 (show R (some (vI (-1))) μ from ?_)
      have e : aGives G s rule r k = -1 := by
        unfold aGives
        repeat (first | rw [if_pos (by first | omega | assumption)] | rw [if_neg (by first | omega | assumption)])
      rw [← e]; exact h
    ·
      refine seg 5 (show Wp 45 0 [some (vR 8), some (vI r), some (vI k)] [] μ (fun rr μ' => Wp 97 18 [some (vR 0), some (vI rule), some (vI r), some (vI k)] (rr.toList ++ []) μ' R) from ?_)
      refine g45 hc (fun b3 => ?_) (fun b3 => ?_)
      ·
        refine seg 1 (show (¬ (1 = 0) → Wp 97 23 [some (vR 0), some (vI rule), some (vI r), some (vI k)] [] μ R) ∧ (1 = 0 → Wp 97 21 [some (vR 0), some (vI rule), some (vI r), some (vI k)] [] μ R) from ⟨fun _ => ?_, fun z => absurd z (by decide)⟩)
        refine seg 8 (show Wp 33 0 [some (vR 12), some (vI rule), some (vI r), some (vI k), some (vR 30), none, none] [] μ (fun rr μ' => Wp 97 37 [some (vR 0), some (vI rule), some (vI r), some (vI k)] (rr.toList ++ []) μ' R) from ?_)
        refine s33_30 hg hs hok (by omega) (by have := hc.1.s (r := r) (by omega); omega) (by omega) ?_
        refine seg 1 (show R (some (vI (gv G s rule r k))) μ from ?_)
        have e : aGives G s rule r k = gv G s rule r k := by
          unfold aGives
          repeat (first | rw [if_pos (by first | omega | assumption)] | rw [if_neg (by first | omega | assumption)])
        rw [← e]; exact h
      ·
        refine seg 1 (show (¬ (0 = 0) → Wp 97 23 [some (vR 0), some (vI rule), some (vI r), some (vI k)] [] μ R) ∧ (0 = 0 → Wp 97 21 [some (vR 0), some (vI rule), some (vI r), some (vI k)] [] μ R) from ⟨fun z => absurd z (by decide), fun _ => ?_⟩)
        refine seg 2 (show R (some (vI (-1))) μ from ?_)
        have e : aGives G s rule r k = -1 := by
          unfold aGives
          repeat (first | rw [if_pos (by first | omega | assumption)] | rw [if_neg (by first | omega | assumption)])
        rw [← e]; exact h
theorem l98 {G : Hi} {s : Se} {R : Po} {μ : Mu} {r f : Int} (hh : RH G s μ) (hr : 0 ≤ r ∧ r < hN G) (hk : R (some (vI (bs (fun k => (og G s r k).1 / 8 = f) (hS G r).toNat))) μ) : ∀ (n k : Nat), hS G r - (k : Int) = n → Wp 98 29 [some (vR 0), some (vI r), some (vI f), some (vI (bs (fun k => (og G s r k).1 / 8 = f) k)), some (vI (k : Int))] [] μ R := by
  have hc := hh.1.1
  have hn := hc.1.n
  have hsr := hc.1.s hr
  intro n
  induction n with
  | zero =>
    intro k hm
    have hp : k < 8 → 1 * 2 ^ ((k : Int)).toNat ≤ (128 : Int) ∧ (0 : Int) ≤ 1 * 2 ^ ((k : Int)).toNat := fun z => pw_le (k := (k : Int)) (by omega)
    have hb := bs_nn (fun k => (og G s r k).1 / 8 = f) k
    refine seg 5 (show Wp 46 0 [some (vR 8), some (vI r)] [] μ (fun rr μ' => Wp 98 39 [some (vR 0), some (vI r), some (vI f), some (vI (bs (fun k => (og G s r k).1 / 8 = f) k)), some (vI (k : Int))] (rr.toList ++ [vI (k : Int)]) μ' R) from ?_)
    refine g46 hc (by omega) ?_
    refine seg 1 (show (hS G r ≤ (k : Int) → Wp 98 72 [some (vR 0), some (vI r), some (vI f), some (vI (bs (fun k => (og G s r k).1 / 8 = f) k)), some (vI (k : Int))] [] μ R) ∧ (¬ (hS G r ≤ (k : Int)) → Wp 98 42 [some (vR 0), some (vI r), some (vI f), some (vI (bs (fun k => (og G s r k).1 / 8 = f) k)), some (vI (k : Int))] [] μ R) from ⟨fun c1 => ?_, fun c1 => ?_⟩)
    ·
      refine seg 2 (show R (some (vI (bs (fun k => (og G s r k).1 / 8 = f) k))) μ from ?_)
      first | (exfalso; omega) | (have e : (hS G r).toNat = k := (by omega); rw [e] at hk; exact hk)
    ·
      refine seg 5 (show Wp 82 0 [some (vR 32), some (vI r), some (vI (k : Int))] [] μ (fun rr μ' => Wp 98 52 [some (vR 0), some (vI r), some (vI f), some (vI (bs (fun k => (og G s r k).1 / 8 = f) k)), some (vI (k : Int))] (rr.toList ++ []) μ' R) from ?_)
      refine o82 hh (by omega) (by omega) ?_
      refine seg 4 (show (0 ≤ ((og G s r (k : Int)).1) ∧ 0 < 8) ∧ (¬ (((og G s r (k : Int)).1) / 8 = f) → Wp 98 66 [some (vR 0), some (vI r), some (vI f), some (vI (bs (fun k => (og G s r k).1 / 8 = f) k)), some (vI (k : Int))] [] μ R) ∧ (((og G s r (k : Int)).1) / 8 = f → Wp 98 59 [some (vR 0), some (vI r), some (vI f), some (vI (bs (fun k => (og G s r k).1 / 8 = f) k)), some (vI (k : Int))] [] μ R) from ⟨by first | omega | (have := og_lt hc.1 s (r := r) (k := (k : Int)) (by omega) (by omega); omega), fun c2 => ?_, fun c2 => ?_⟩)
      ·
        refine seg 2 (show iR ((k : Int) + 1) ∧ Wp 98 29 [some (vR 0), some (vI r), some (vI f), some (vI (bs (fun k => (og G s r k).1 / 8 = f) k)), some (vI ((k : Int) + 1))] [] μ R from ⟨by first | omega | (have := og_lt hc.1 s (r := r) (k := (k : Int)) (by omega) (by omega); omega), ?_⟩)
        exfalso; omega
      ·
        refine seg 8 (show (0 ≤ 1 ∧ 0 ≤ (k : Int) ∧ (k : Int) < 31 ∧ 1 * 2 ^ ((k : Int) : Int).toNat ≤ 2147483647) ∧ (0 ≤ (bs (fun k => (og G s r k).1 / 8 = f) k) ∧ 0 ≤ (1 * 2 ^ ((k : Int) : Int).toNat)) ∧ iR ((k : Int) + 1) ∧ Wp 98 29 [some (vR 0), some (vI r), some (vI f), some (vI ((Int.toNat (bs (fun k => (og G s r k).1 / 8 = f) k) ||| Int.toNat (1 * 2 ^ ((k : Int) : Int).toNat) : Nat) : Int)), some (vI ((k : Int) + 1))] [] μ R from ⟨by first | omega | (have := og_lt hc.1 s (r := r) (k := (k : Int)) (by omega) (by omega); omega), by first | omega | (have := og_lt hc.1 s (r := r) (k := (k : Int)) (by omega) (by omega); omega), by first | omega | (have := og_lt hc.1 s (r := r) (k := (k : Int)) (by omega) (by omega); omega), ?_⟩)
        exfalso; omega
  | succ n ih =>
    intro k hm
    have hp : k < 8 → 1 * 2 ^ ((k : Int)).toNat ≤ (128 : Int) ∧ (0 : Int) ≤ 1 * 2 ^ ((k : Int)).toNat := fun z => pw_le (k := (k : Int)) (by omega)
    have hb := bs_nn (fun k => (og G s r k).1 / 8 = f) k
    refine seg 5 (show Wp 46 0 [some (vR 8), some (vI r)] [] μ (fun rr μ' => Wp 98 39 [some (vR 0), some (vI r), some (vI f), some (vI (bs (fun k => (og G s r k).1 / 8 = f) k)), some (vI (k : Int))] (rr.toList ++ [vI (k : Int)]) μ' R) from ?_)
    refine g46 hc (by omega) ?_
    refine seg 1 (show (hS G r ≤ (k : Int) → Wp 98 72 [some (vR 0), some (vI r), some (vI f), some (vI (bs (fun k => (og G s r k).1 / 8 = f) k)), some (vI (k : Int))] [] μ R) ∧ (¬ (hS G r ≤ (k : Int)) → Wp 98 42 [some (vR 0), some (vI r), some (vI f), some (vI (bs (fun k => (og G s r k).1 / 8 = f) k)), some (vI (k : Int))] [] μ R) from ⟨fun c3 => ?_, fun c3 => ?_⟩)
    ·
      refine seg 2 (show R (some (vI (bs (fun k => (og G s r k).1 / 8 = f) k))) μ from ?_)
      first | (exfalso; omega) | (have e : (hS G r).toNat = k := (by omega); rw [e] at hk; exact hk)
    ·
      refine seg 5 (show Wp 82 0 [some (vR 32), some (vI r), some (vI (k : Int))] [] μ (fun rr μ' => Wp 98 52 [some (vR 0), some (vI r), some (vI f), some (vI (bs (fun k => (og G s r k).1 / 8 = f) k)), some (vI (k : Int))] (rr.toList ++ []) μ' R) from ?_)
      refine o82 hh (by omega) (by omega) ?_
      refine seg 4 (show (0 ≤ ((og G s r (k : Int)).1) ∧ 0 < 8) ∧ (¬ (((og G s r (k : Int)).1) / 8 = f) → Wp 98 66 [some (vR 0), some (vI r), some (vI f), some (vI (bs (fun k => (og G s r k).1 / 8 = f) k)), some (vI (k : Int))] [] μ R) ∧ (((og G s r (k : Int)).1) / 8 = f → Wp 98 59 [some (vR 0), some (vI r), some (vI f), some (vI (bs (fun k => (og G s r k).1 / 8 = f) k)), some (vI (k : Int))] [] μ R) from ⟨by first | omega | (have := og_lt hc.1 s (r := r) (k := (k : Int)) (by omega) (by omega); omega), fun c4 => ?_, fun c4 => ?_⟩)
      ·
        refine seg 2 (show iR ((k : Int) + 1) ∧ Wp 98 29 [some (vR 0), some (vI r), some (vI f), some (vI (bs (fun k => (og G s r k).1 / 8 = f) k)), some (vI ((k : Int) + 1))] [] μ R from ⟨by first | omega | (have := og_lt hc.1 s (r := r) (k := (k : Int)) (by omega) (by omega); omega), ?_⟩)
        have := ih (k + 1) (by omega)
        first | rw [bs_y (P := (fun k => (og G s r k).1 / 8 = f)) (by assumption)] at this | rw [bs_n (P := (fun k => (og G s r k).1 / 8 = f)) (by assumption)] at this
        exact this
      ·
        refine seg 8 (show (0 ≤ 1 ∧ 0 ≤ (k : Int) ∧ (k : Int) < 31 ∧ 1 * 2 ^ ((k : Int) : Int).toNat ≤ 2147483647) ∧ (0 ≤ (bs (fun k => (og G s r k).1 / 8 = f) k) ∧ 0 ≤ (1 * 2 ^ ((k : Int) : Int).toNat)) ∧ iR ((k : Int) + 1) ∧ Wp 98 29 [some (vR 0), some (vI r), some (vI f), some (vI ((Int.toNat (bs (fun k => (og G s r k).1 / 8 = f) k) ||| Int.toNat (1 * 2 ^ ((k : Int) : Int).toNat) : Nat) : Int)), some (vI ((k : Int) + 1))] [] μ R from ⟨by first | omega | (have := og_lt hc.1 s (r := r) (k := (k : Int)) (by omega) (by omega); omega), by first | omega | (have := og_lt hc.1 s (r := r) (k := (k : Int)) (by omega) (by omega); omega), by first | omega | (have := og_lt hc.1 s (r := r) (k := (k : Int)) (by omega) (by omega); omega), ?_⟩)
        have := ih (k + 1) (by omega)
        first | rw [bs_y (P := (fun k => (og G s r k).1 / 8 = f)) (by assumption)] at this | rw [bs_n (P := (fun k => (og G s r k).1 / 8 = f)) (by assumption)] at this
        exact this
theorem c98 {G : Hi} {T : Tx} {s : Se} {U : Un} {im : Int → Option Se} {N : Sn} {R : Po} {μ : Mu} (hrc : RC G T s U im N μ) {r f : Int} (h : R (some (vI (aBegun G s r f))) μ) : Wp 98 0 [some (vR 0), some (vI r), some (vI f), none, none] [] μ R := by
  have hh := hrc.1
  have hg := hh.1
  have hc := hg.1
  have hn := hc.1.n
  have hs := hh.2.1
  have hok := hh.2.2.1
  refine seg 4 (show Wp 44 0 [some (vR 8), some (vI r)] [] μ (fun rr μ' => Wp 98 8 [some (vR 0), some (vI r), some (vI f), none, none] (rr.toList ++ []) μ' R) from ?_)
  refine g44 hc (fun b1 => ?_) (fun b1 => ?_)
  ·
    refine seg 1 (show (1 = 0 → Wp 98 22 [some (vR 0), some (vI r), some (vI f), none, none] [] μ R) ∧ (¬ (1 = 0) → Wp 98 11 [some (vR 0), some (vI r), some (vI f), none, none] [] μ R) from ⟨fun z => absurd z (by decide), fun _ => ?_⟩)
    refine seg 4 (show Wp 44 0 [some (vR 8), some (vI f)] [] μ (fun rr μ' => Wp 98 19 [some (vR 0), some (vI r), some (vI f), none, none] (rr.toList ++ []) μ' R) from ?_)
    refine g44 hc (fun b2 => ?_) (fun b2 => ?_)
    ·
      refine seg 1 (show (¬ (1 = 0) → Wp 98 24 [some (vR 0), some (vI r), some (vI f), none, none] [] μ R) ∧ (1 = 0 → Wp 98 22 [some (vR 0), some (vI r), some (vI f), none, none] [] μ R) from ⟨fun _ => ?_, fun z => absurd z (by decide)⟩)
      refine seg 4 (show Wp 98 29 [some (vR 0), some (vI r), some (vI f), some (vI 0), some (vI 0)] [] μ R from ?_)
      have hsr := hc.1.s (r := r) (by omega)
      unfold aBegun at h
      rw [if_pos (by omega)] at h
      exact l98 hh (by omega) h (hS G r).toNat 0 (by omega)
    ·
      refine seg 1 (show (¬ (0 = 0) → Wp 98 24 [some (vR 0), some (vI r), some (vI f), none, none] [] μ R) ∧ (0 = 0 → Wp 98 22 [some (vR 0), some (vI r), some (vI f), none, none] [] μ R) from ⟨fun z => absurd z (by decide), fun _ => ?_⟩)
      refine seg 2 (show R (some (vI (-1))) μ from ?_)
      have e : aBegun G s r f = -1 := by
        unfold aBegun
        repeat (first | rw [if_pos (by first | omega | assumption)] | rw [if_neg (by first | omega | assumption)])
      rw [← e]; exact h
  ·
    refine seg 1 (show (0 = 0 → Wp 98 22 [some (vR 0), some (vI r), some (vI f), none, none] [] μ R) ∧ (¬ (0 = 0) → Wp 98 11 [some (vR 0), some (vI r), some (vI f), none, none] [] μ R) from ⟨fun _ => ?_, fun z => absurd z (by decide)⟩)
    refine seg 2 (show R (some (vI (-1))) μ from ?_)
    have e : aBegun G s r f = -1 := by
      unfold aBegun
      repeat (first | rw [if_pos (by first | omega | assumption)] | rw [if_neg (by first | omega | assumption)])
    rw [← e]; exact h
theorem s112 {G : Hi} {s : Se} {R : Po} {μ : Mu} {r l : Int} (hh : RH G s μ) (hr : 0 ≤ r ∧ r < hN G) (hl : 0 ≤ l ∧ l < hS G r) (hk : R (some (vI (OL G s r l))) μ) : Wp 112 0 [some (vR 0), some (vI r), some (vI l), none, none, none, none] [] μ R := by
  have hsr := hh.1.1.1.s hr
  refine seg 5 (show Wp 82 0 [some (vR 32), some (vI r), some (vI l)] [] μ (fun rr μ' => Wp 112 9 [some (vR 0), some (vI r), some (vI l), none, none, none, none] (rr.toList ++ []) μ' R) from ?_)
  refine o82 hh (by omega) (by omega) ?_
  refine seg 5 (show Wp 112 16 [some (vR 0), some (vI r), some (vI l), some (vI ((og G s r l).1)), some (vI 0), some (vI 0), none] [] μ R from ?_)
  exact l112 hh hr hk (hS G r).toNat 0 none (by omega)
theorem l99 {G : Hi} {s : Se} {R : Po} {μ : Mu} {r k : Int} (hh : RH G s μ) (hr : 0 ≤ r ∧ r < hN G) (hk : R (some (vI (agF G s r k (hS G r).toNat 0))) μ) : ∀ (n : Nat) (l : Int), hS G r - l = n → 0 ≤ l → agF G s r k (hS G r).toNat 0 = agF G s r k n l → Wp 99 19 [some (vR 0), some (vI r), some (vI k), some (vI l)] [] μ R := by
  have hc := hh.1.1
  have hn := hc.1.n
  have hsr := hc.1.s hr
  intro n
  induction n with
  | zero =>
    intro l hm h0 he
    refine seg 5 (show Wp 46 0 [some (vR 8), some (vI r)] [] μ (fun rr μ' => Wp 99 28 [some (vR 0), some (vI r), some (vI k), some (vI l)] (rr.toList ++ [vI l]) μ' R) from ?_)
    refine g46 hc (by omega) ?_
    refine seg 1 (show (hS G r ≤ l → Wp 99 49 [some (vR 0), some (vI r), some (vI k), some (vI l)] [] μ R) ∧ (¬ (hS G r ≤ l) → Wp 99 31 [some (vR 0), some (vI r), some (vI k), some (vI l)] [] μ R) from ⟨fun c1 => ?_, fun c1 => ?_⟩)
    ·
      refine seg 2 (show R (some (vI (-9))) μ from ?_)
      first | (exfalso; omega) | (rw [he] at hk; exact hk)
    ·
      refine seg 4 (show Wp 112 0 [some (vR 0), some (vI r), some (vI l), none, none, none, none] [] μ (fun rr μ' => Wp 99 37 [some (vR 0), some (vI r), some (vI k), some (vI l)] (rr.toList ++ []) μ' R) from ?_)
      refine s112 hh (by omega) (by omega) ?_
      refine seg 2 (show (¬ (OL G s r l = k) → Wp 99 43 [some (vR 0), some (vI r), some (vI k), some (vI l)] [] μ R) ∧ (OL G s r l = k → Wp 99 41 [some (vR 0), some (vI r), some (vI k), some (vI l)] [] μ R) from ⟨fun c2 => ?_, fun c2 => ?_⟩)
      ·
        refine seg 2 (show iR (l + 1) ∧ Wp 99 19 [some (vR 0), some (vI r), some (vI k), some (vI (l + 1))] [] μ R from ⟨by omega, ?_⟩)
        exfalso; omega
      ·
        refine seg 2 (show R (some (vI l)) μ from ?_)
        first | (exfalso; omega) | (rw [he] at hk; exact hk)
  | succ n ih =>
    intro l hm h0 he
    refine seg 5 (show Wp 46 0 [some (vR 8), some (vI r)] [] μ (fun rr μ' => Wp 99 28 [some (vR 0), some (vI r), some (vI k), some (vI l)] (rr.toList ++ [vI l]) μ' R) from ?_)
    refine g46 hc (by omega) ?_
    refine seg 1 (show (hS G r ≤ l → Wp 99 49 [some (vR 0), some (vI r), some (vI k), some (vI l)] [] μ R) ∧ (¬ (hS G r ≤ l) → Wp 99 31 [some (vR 0), some (vI r), some (vI k), some (vI l)] [] μ R) from ⟨fun c3 => ?_, fun c3 => ?_⟩)
    ·
      refine seg 2 (show R (some (vI (-9))) μ from ?_)
      first | (exfalso; omega) | (rw [he, agF, if_pos (by assumption)] at hk; exact hk)
    ·
      refine seg 4 (show Wp 112 0 [some (vR 0), some (vI r), some (vI l), none, none, none, none] [] μ (fun rr μ' => Wp 99 37 [some (vR 0), some (vI r), some (vI k), some (vI l)] (rr.toList ++ []) μ' R) from ?_)
      refine s112 hh (by omega) (by omega) ?_
      refine seg 2 (show (¬ (OL G s r l = k) → Wp 99 43 [some (vR 0), some (vI r), some (vI k), some (vI l)] [] μ R) ∧ (OL G s r l = k → Wp 99 41 [some (vR 0), some (vI r), some (vI k), some (vI l)] [] μ R) from ⟨fun c4 => ?_, fun c4 => ?_⟩)
      ·
        refine seg 2 (show iR (l + 1) ∧ Wp 99 19 [some (vR 0), some (vI r), some (vI k), some (vI (l + 1))] [] μ R from ⟨by omega, ?_⟩)
        rw [agF, if_neg (by assumption)] at he
        exact ih (l + 1) (by omega) (by omega) he
      ·
        refine seg 2 (show R (some (vI l)) μ from ?_)
        first | (exfalso; omega) | (rw [he, agF, if_pos (by assumption)] at hk; exact hk)
theorem c99 {G : Hi} {T : Tx} {s : Se} {U : Un} {im : Int → Option Se} {N : Sn} {R : Po} {μ : Mu} (hrc : RC G T s U im N μ) {r k : Int} (h : R (some (vI (aAge G s r k))) μ) : Wp 99 0 [some (vR 0), some (vI r), some (vI k), none] [] μ R := by
  have hh := hrc.1
  have hg := hh.1
  have hc := hg.1
  have hn := hc.1.n
  have hs := hh.2.1
  have hok := hh.2.2.1
  refine seg 4 (show Wp 44 0 [some (vR 8), some (vI r)] [] μ (fun rr μ' => Wp 99 8 [some (vR 0), some (vI r), some (vI k), none] (rr.toList ++ []) μ' R) from ?_)
  refine g44 hc (fun b1 => ?_) (fun b1 => ?_)
  ·
    refine seg 1 (show (1 = 0 → Wp 99 15 [some (vR 0), some (vI r), some (vI k), none] [] μ R) ∧ (¬ (1 = 0) → Wp 99 11 [some (vR 0), some (vI r), some (vI k), none] [] μ R) from ⟨fun z => absurd z (by decide), fun _ => ?_⟩)
    refine seg 2 (show (0 ≤ k → Wp 99 17 [some (vR 0), some (vI r), some (vI k), none] [] μ R) ∧ (¬ (0 ≤ k) → Wp 99 15 [some (vR 0), some (vI r), some (vI k), none] [] μ R) from ⟨fun c2 => ?_, fun c2 => ?_⟩)
    ·
      refine seg 2 (show Wp 99 19 [some (vR 0), some (vI r), some (vI k), some (vI 0)] [] μ R from ?_)
      have hsr := hc.1.s (r := r) (by omega)
      unfold aAge at h
      rw [if_pos (by omega)] at h
      exact l99 hh (by omega) h (hS G r).toNat 0 (by omega) (by decide) rfl
    ·
      refine seg 2 (show R (some (vI (-1))) μ from ?_)
      have e : aAge G s r k = -1 := by
        unfold aAge
        repeat (first | rw [if_pos (by first | omega | assumption)] | rw [if_neg (by first | omega | assumption)])
      rw [← e]; exact h
  ·
    refine seg 1 (show (0 = 0 → Wp 99 15 [some (vR 0), some (vI r), some (vI k), none] [] μ R) ∧ (¬ (0 = 0) → Wp 99 11 [some (vR 0), some (vI r), some (vI k), none] [] μ R) from ⟨fun _ => ?_, fun z => absurd z (by decide)⟩)
    refine seg 2 (show R (some (vI (-1))) μ from ?_)
    have e : aAge G s r k = -1 := by
      unfold aAge
      repeat (first | rw [if_pos (by first | omega | assumption)] | rw [if_neg (by first | omega | assumption)])
    rw [← e]; exact h
theorem c100 {G : Hi} {T : Tx} {s : Se} {U : Un} {im : Int → Option Se} {N : Sn} {R : Po} {μ : Mu} (hrc : RC G T s U im N μ) {r k o : Int} (h : R (some (vI (aLike G s r k o))) μ) : Wp 100 0 [some (vR 0), some (vI r), some (vI k), some (vI o)] [] μ R := by
  have hh := hrc.1
  have hg := hh.1
  have hc := hg.1
  have hn := hc.1.n
  have hs := hh.2.1
  have hok := hh.2.2.1
  refine seg 5 (show Wp 45 0 [some (vR 8), some (vI r), some (vI k)] [] μ (fun rr μ' => Wp 100 9 [some (vR 0), some (vI r), some (vI k), some (vI o)] (rr.toList ++ []) μ' R) from ?_)
  refine g45 hc (fun b1 => ?_) (fun b1 => ?_)
  ·
    refine seg 1 (show (1 = 0 → Wp 100 23 [some (vR 0), some (vI r), some (vI k), some (vI o)] [] μ R) ∧ (¬ (1 = 0) → Wp 100 12 [some (vR 0), some (vI r), some (vI k), some (vI o)] [] μ R) from ⟨fun z => absurd z (by decide), fun _ => ?_⟩)
    refine seg 4 (show Wp 44 0 [some (vR 8), some (vI o)] [] μ (fun rr μ' => Wp 100 20 [some (vR 0), some (vI r), some (vI k), some (vI o)] (rr.toList ++ []) μ' R) from ?_)
    refine g44 hc (fun b2 => ?_) (fun b2 => ?_)
    ·
      refine seg 1 (show (¬ (1 = 0) → Wp 100 25 [some (vR 0), some (vI r), some (vI k), some (vI o)] [] μ R) ∧ (1 = 0 → Wp 100 23 [some (vR 0), some (vI r), some (vI k), some (vI o)] [] μ R) from ⟨fun _ => ?_, fun z => absurd z (by decide)⟩)
      refine seg 6 (show Wp 82 0 [some (vR 32), some (vI r), some (vI k)] [] μ (fun rr μ' => Wp 100 35 [some (vR 0), some (vI r), some (vI k), some (vI o)] (rr.toList ++ [vR 0]) μ' R) from ?_)
      refine o82 hh (by omega) (by omega) ?_
      refine seg 2 (show Wp 111 0 [some (vR 0), some (vI ((og G s r k).1)), some (vI o), none, none] [] μ (fun rr μ' => Wp 100 39 [some (vR 0), some (vI r), some (vI k), some (vI o)] (rr.toList ++ []) μ' R) from ?_)
      refine s111 hh (by omega) ?_
      refine seg 1 (show R (some (vI (LF G s ((og G s r k).1) o))) μ from ?_)
      have e : aLike G s r k o = LF G s ((og G s r k).1) o := by
        unfold aLike
        repeat (first | rw [if_pos (by first | omega | assumption)] | rw [if_neg (by first | omega | assumption)])
      rw [← e]; exact h
    ·
      refine seg 1 (show (¬ (0 = 0) → Wp 100 25 [some (vR 0), some (vI r), some (vI k), some (vI o)] [] μ R) ∧ (0 = 0 → Wp 100 23 [some (vR 0), some (vI r), some (vI k), some (vI o)] [] μ R) from ⟨fun z => absurd z (by decide), fun _ => ?_⟩)
      refine seg 2 (show R (some (vI (-1))) μ from ?_)
      have e : aLike G s r k o = -1 := by
        unfold aLike
        repeat (first | rw [if_pos (by first | omega | assumption)] | rw [if_neg (by first | omega | assumption)])
      rw [← e]; exact h
  ·
    refine seg 1 (show (0 = 0 → Wp 100 23 [some (vR 0), some (vI r), some (vI k), some (vI o)] [] μ R) ∧ (¬ (0 = 0) → Wp 100 12 [some (vR 0), some (vI r), some (vI k), some (vI o)] [] μ R) from ⟨fun _ => ?_, fun z => absurd z (by decide)⟩)
    refine seg 2 (show R (some (vI (-1))) μ from ?_)
    have e : aLike G s r k o = -1 := by
      unfold aLike
      repeat (first | rw [if_pos (by first | omega | assumption)] | rw [if_neg (by first | omega | assumption)])
    rw [← e]; exact h
theorem l101 {G : Hi} {s : Se} {R : Po} {μ : Mu} {r k : Int} (hh : RH G s μ) (hr : vLn G r k) (hk : R (some (vI (bs (fun q => LF G s (r * 8 + k) q ≠ 0) (hN G).toNat))) μ) : ∀ (n q : Nat), hN G - (q : Int) = n → Wp 101 19 [some (vR 0), some (vI r), some (vI k), some (vI (bs (fun q => LF G s (r * 8 + k) q ≠ 0) q)), some (vI (q : Int))] [] μ R := by
  have hc := hh.1.1
  have hn := hc.1.n
  have hsr := hc.1.s (r := r) (by omega)
  intro n
  induction n with
  | zero =>
    intro q hm
    have hp : q < 8 → 1 * 2 ^ ((q : Int)).toNat ≤ (128 : Int) ∧ (0 : Int) ≤ 1 * 2 ^ ((q : Int)).toNat := fun z => pw_le (k := (q : Int)) (by omega)
    have hb := bs_nn (fun q => LF G s (r * 8 + k) q ≠ 0) q
    refine seg 4 (show Wp 43 0 [some (vR 8)] [] μ (fun rr μ' => Wp 101 28 [some (vR 0), some (vI r), some (vI k), some (vI (bs (fun q => LF G s (r * 8 + k) q ≠ 0) q)), some (vI (q : Int))] (rr.toList ++ [vI (q : Int)]) μ' R) from ?_)
    refine g43 hc ?_
    refine seg 1 (show (hN G ≤ (q : Int) → Wp 101 58 [some (vR 0), some (vI r), some (vI k), some (vI (bs (fun q => LF G s (r * 8 + k) q ≠ 0) q)), some (vI (q : Int))] [] μ R) ∧ (¬ (hN G ≤ (q : Int)) → Wp 101 31 [some (vR 0), some (vI r), some (vI k), some (vI (bs (fun q => LF G s (r * 8 + k) q ≠ 0) q)), some (vI (q : Int))] [] μ R) from ⟨fun c1 => ?_, fun c1 => ?_⟩)
    ·
      refine seg 2 (show R (some (vI (bs (fun q => LF G s (r * 8 + k) q ≠ 0) q))) μ from ?_)
      first | (exfalso; omega) | (have e : (hN G).toNat = q := (by omega); rw [e] at hk; exact hk)
    ·
      refine seg 4 (show Wp 114 0 [some (vI r), some (vI k)] [] μ (fun rr μ' => Wp 101 37 [some (vR 0), some (vI r), some (vI k), some (vI (bs (fun q => LF G s (r * 8 + k) q ≠ 0) q)), some (vI (q : Int))] (rr.toList ++ [vR 0]) μ' R) from ?_)
      refine s114 (by omega) ?_
      refine seg 2 (show Wp 111 0 [some (vR 0), some (vI (r * 8 + k)), some (vI (q : Int)), none, none] [] μ (fun rr μ' => Wp 101 42 [some (vR 0), some (vI r), some (vI k), some (vI (bs (fun q => LF G s (r * 8 + k) q ≠ 0) q)), some (vI (q : Int))] (rr.toList ++ []) μ' R) from ?_)
      refine s111 hh (by omega) ?_
      refine seg 1 (show (LF G s (r * 8 + k) (q : Int) = 0 → Wp 101 52 [some (vR 0), some (vI r), some (vI k), some (vI (bs (fun q => LF G s (r * 8 + k) q ≠ 0) q)), some (vI (q : Int))] [] μ R) ∧ (¬ (LF G s (r * 8 + k) (q : Int) = 0) → Wp 101 45 [some (vR 0), some (vI r), some (vI k), some (vI (bs (fun q => LF G s (r * 8 + k) q ≠ 0) q)), some (vI (q : Int))] [] μ R) from ⟨fun c2 => ?_, fun c2 => ?_⟩)
      ·
        refine seg 2 (show iR ((q : Int) + 1) ∧ Wp 101 19 [some (vR 0), some (vI r), some (vI k), some (vI (bs (fun q => LF G s (r * 8 + k) q ≠ 0) q)), some (vI ((q : Int) + 1))] [] μ R from ⟨by omega, ?_⟩)
        exfalso; omega
      ·
        refine seg 8 (show (0 ≤ 1 ∧ 0 ≤ (q : Int) ∧ (q : Int) < 31 ∧ 1 * 2 ^ ((q : Int) : Int).toNat ≤ 2147483647) ∧ (0 ≤ (bs (fun q => LF G s (r * 8 + k) q ≠ 0) q) ∧ 0 ≤ (1 * 2 ^ ((q : Int) : Int).toNat)) ∧ iR ((q : Int) + 1) ∧ Wp 101 19 [some (vR 0), some (vI r), some (vI k), some (vI ((Int.toNat (bs (fun q => LF G s (r * 8 + k) q ≠ 0) q) ||| Int.toNat (1 * 2 ^ ((q : Int) : Int).toNat) : Nat) : Int)), some (vI ((q : Int) + 1))] [] μ R from ⟨by omega, by omega, by omega, ?_⟩)
        exfalso; omega
  | succ n ih =>
    intro q hm
    have hp : q < 8 → 1 * 2 ^ ((q : Int)).toNat ≤ (128 : Int) ∧ (0 : Int) ≤ 1 * 2 ^ ((q : Int)).toNat := fun z => pw_le (k := (q : Int)) (by omega)
    have hb := bs_nn (fun q => LF G s (r * 8 + k) q ≠ 0) q
    refine seg 4 (show Wp 43 0 [some (vR 8)] [] μ (fun rr μ' => Wp 101 28 [some (vR 0), some (vI r), some (vI k), some (vI (bs (fun q => LF G s (r * 8 + k) q ≠ 0) q)), some (vI (q : Int))] (rr.toList ++ [vI (q : Int)]) μ' R) from ?_)
    refine g43 hc ?_
    refine seg 1 (show (hN G ≤ (q : Int) → Wp 101 58 [some (vR 0), some (vI r), some (vI k), some (vI (bs (fun q => LF G s (r * 8 + k) q ≠ 0) q)), some (vI (q : Int))] [] μ R) ∧ (¬ (hN G ≤ (q : Int)) → Wp 101 31 [some (vR 0), some (vI r), some (vI k), some (vI (bs (fun q => LF G s (r * 8 + k) q ≠ 0) q)), some (vI (q : Int))] [] μ R) from ⟨fun c3 => ?_, fun c3 => ?_⟩)
    ·
      refine seg 2 (show R (some (vI (bs (fun q => LF G s (r * 8 + k) q ≠ 0) q))) μ from ?_)
      first | (exfalso; omega) | (have e : (hN G).toNat = q := (by omega); rw [e] at hk; exact hk)
    ·
      refine seg 4 (show Wp 114 0 [some (vI r), some (vI k)] [] μ (fun rr μ' => Wp 101 37 [some (vR 0), some (vI r), some (vI k), some (vI (bs (fun q => LF G s (r * 8 + k) q ≠ 0) q)), some (vI (q : Int))] (rr.toList ++ [vR 0]) μ' R) from ?_)
      refine s114 (by omega) ?_
      refine seg 2 (show Wp 111 0 [some (vR 0), some (vI (r * 8 + k)), some (vI (q : Int)), none, none] [] μ (fun rr μ' => Wp 101 42 [some (vR 0), some (vI r), some (vI k), some (vI (bs (fun q => LF G s (r * 8 + k) q ≠ 0) q)), some (vI (q : Int))] (rr.toList ++ []) μ' R) from ?_)
      refine s111 hh (by omega) ?_
      refine seg 1 (show (LF G s (r * 8 + k) (q : Int) = 0 → Wp 101 52 [some (vR 0), some (vI r), some (vI k), some (vI (bs (fun q => LF G s (r * 8 + k) q ≠ 0) q)), some (vI (q : Int))] [] μ R) ∧ (¬ (LF G s (r * 8 + k) (q : Int) = 0) → Wp 101 45 [some (vR 0), some (vI r), some (vI k), some (vI (bs (fun q => LF G s (r * 8 + k) q ≠ 0) q)), some (vI (q : Int))] [] μ R) from ⟨fun c4 => ?_, fun c4 => ?_⟩)
      ·
        refine seg 2 (show iR ((q : Int) + 1) ∧ Wp 101 19 [some (vR 0), some (vI r), some (vI k), some (vI (bs (fun q => LF G s (r * 8 + k) q ≠ 0) q)), some (vI ((q : Int) + 1))] [] μ R from ⟨by omega, ?_⟩)
        have := ih (q + 1) (by omega)
        first | rw [bs_y (P := (fun q => LF G s (r * 8 + k) q ≠ 0)) (by assumption)] at this | rw [bs_n (P := (fun q => LF G s (r * 8 + k) q ≠ 0)) (by intro z; exact z (by assumption))] at this
        exact this
      ·
        refine seg 8 (show (0 ≤ 1 ∧ 0 ≤ (q : Int) ∧ (q : Int) < 31 ∧ 1 * 2 ^ ((q : Int) : Int).toNat ≤ 2147483647) ∧ (0 ≤ (bs (fun q => LF G s (r * 8 + k) q ≠ 0) q) ∧ 0 ≤ (1 * 2 ^ ((q : Int) : Int).toNat)) ∧ iR ((q : Int) + 1) ∧ Wp 101 19 [some (vR 0), some (vI r), some (vI k), some (vI ((Int.toNat (bs (fun q => LF G s (r * 8 + k) q ≠ 0) q) ||| Int.toNat (1 * 2 ^ ((q : Int) : Int).toNat) : Nat) : Int)), some (vI ((q : Int) + 1))] [] μ R from ⟨by omega, by omega, by omega, ?_⟩)
        have := ih (q + 1) (by omega)
        first | rw [bs_y (P := (fun q => LF G s (r * 8 + k) q ≠ 0)) (by assumption)] at this | rw [bs_n (P := (fun q => LF G s (r * 8 + k) q ≠ 0)) (by intro z; exact z (by assumption))] at this
        exact this
theorem c101 {G : Hi} {T : Tx} {s : Se} {U : Un} {im : Int → Option Se} {N : Sn} {R : Po} {μ : Mu} (hrc : RC G T s U im N μ) {r k : Int} (h : R (some (vI (aCarr G s r k))) μ) : Wp 101 0 [some (vR 0), some (vI r), some (vI k), none, none] [] μ R := by
  have hh := hrc.1
  have hg := hh.1
  have hc := hg.1
  have hn := hc.1.n
  have hs := hh.2.1
  have hok := hh.2.2.1
  refine seg 5 (show Wp 45 0 [some (vR 8), some (vI r), some (vI k)] [] μ (fun rr μ' => Wp 101 9 [some (vR 0), some (vI r), some (vI k), none, none] (rr.toList ++ []) μ' R) from ?_)
  refine g45 hc (fun b1 => ?_) (fun b1 => ?_)
  ·
    refine seg 1 (show (¬ (1 = 0) → Wp 101 14 [some (vR 0), some (vI r), some (vI k), none, none] [] μ R) ∧ (1 = 0 → Wp 101 12 [some (vR 0), some (vI r), some (vI k), none, none] [] μ R) from ⟨fun _ => ?_, fun z => absurd z (by decide)⟩)
    refine seg 4 (show Wp 101 19 [some (vR 0), some (vI r), some (vI k), some (vI 0), some (vI 0)] [] μ R from ?_)
    unfold aCarr at h
    rw [if_pos (by omega)] at h
    exact l101 hh (by omega) h (hN G).toNat 0 (by omega)
  ·
    refine seg 1 (show (¬ (0 = 0) → Wp 101 14 [some (vR 0), some (vI r), some (vI k), none, none] [] μ R) ∧ (0 = 0 → Wp 101 12 [some (vR 0), some (vI r), some (vI k), none, none] [] μ R) from ⟨fun z => absurd z (by decide), fun _ => ?_⟩)
    refine seg 2 (show R (some (vI (-1))) μ from ?_)
    have e : aCarr G s r k = -1 := by
      unfold aCarr
      repeat (first | rw [if_pos (by first | omega | assumption)] | rw [if_neg (by first | omega | assumption)])
    rw [← e]; exact h
theorem l102 {G : Hi} {s : Se} {R : Po} {μ : Mu} {r o : Int} (hh : RH G s μ) (hr : 0 ≤ r ∧ r < hN G) (ho : 0 ≤ o ∧ o < hN G) (hk : R (some (vI (cn (fun k => LF G s (r * 8 + k) o ≠ 0) (hS G r).toNat))) μ) : ∀ (n k : Nat), hS G r - (k : Int) = n → Wp 102 29 [some (vR 0), some (vI r), some (vI o), some (vI (cn (fun k => LF G s (r * 8 + k) o ≠ 0) k)), some (vI (k : Int))] [] μ R := by
  have hc := hh.1.1
  have hn := hc.1.n
  have hsr := hc.1.s (r := r) (by omega)
  intro n
  induction n with
  | zero =>
    intro k hm
    have hb := cn_rg (fun k => LF G s (r * 8 + k) o ≠ 0) k
    refine seg 5 (show Wp 46 0 [some (vR 8), some (vI r)] [] μ (fun rr μ' => Wp 102 39 [some (vR 0), some (vI r), some (vI o), some (vI (cn (fun k => LF G s (r * 8 + k) o ≠ 0) k)), some (vI (k : Int))] (rr.toList ++ [vI (k : Int)]) μ' R) from ?_)
    refine g46 hc (by omega) ?_
    refine seg 1 (show (hS G r ≤ (k : Int) → Wp 102 65 [some (vR 0), some (vI r), some (vI o), some (vI (cn (fun k => LF G s (r * 8 + k) o ≠ 0) k)), some (vI (k : Int))] [] μ R) ∧ (¬ (hS G r ≤ (k : Int)) → Wp 102 42 [some (vR 0), some (vI r), some (vI o), some (vI (cn (fun k => LF G s (r * 8 + k) o ≠ 0) k)), some (vI (k : Int))] [] μ R) from ⟨fun c1 => ?_, fun c1 => ?_⟩)
    ·
      refine seg 2 (show R (some (vI (cn (fun k => LF G s (r * 8 + k) o ≠ 0) k))) μ from ?_)
      first | (exfalso; omega) | (have e : (hS G r).toNat = k := (by omega); rw [e] at hk; exact hk)
    ·
      refine seg 4 (show Wp 114 0 [some (vI r), some (vI (k : Int))] [] μ (fun rr μ' => Wp 102 49 [some (vR 0), some (vI r), some (vI o), some (vI (cn (fun k => LF G s (r * 8 + k) o ≠ 0) k)), some (vI (k : Int))] (rr.toList ++ [vR 0]) μ' R) from ?_)
      refine s114 (by omega) ?_
      refine seg 2 (show Wp 111 0 [some (vR 0), some (vI (r * 8 + (k : Int))), some (vI o), none, none] [] μ (fun rr μ' => Wp 102 53 [some (vR 0), some (vI r), some (vI o), some (vI (cn (fun k => LF G s (r * 8 + k) o ≠ 0) k)), some (vI (k : Int))] (rr.toList ++ []) μ' R) from ?_)
      refine s111 hh (by omega) ?_
      refine seg 1 (show (LF G s (r * 8 + (k : Int)) o = 0 → Wp 102 59 [some (vR 0), some (vI r), some (vI o), some (vI (cn (fun k => LF G s (r * 8 + k) o ≠ 0) k)), some (vI (k : Int))] [] μ R) ∧ (¬ (LF G s (r * 8 + (k : Int)) o = 0) → Wp 102 56 [some (vR 0), some (vI r), some (vI o), some (vI (cn (fun k => LF G s (r * 8 + k) o ≠ 0) k)), some (vI (k : Int))] [] μ R) from ⟨fun c2 => ?_, fun c2 => ?_⟩)
      ·
        refine seg 2 (show iR ((k : Int) + 1) ∧ Wp 102 29 [some (vR 0), some (vI r), some (vI o), some (vI (cn (fun k => LF G s (r * 8 + k) o ≠ 0) k)), some (vI ((k : Int) + 1))] [] μ R from ⟨by omega, ?_⟩)
        exfalso; omega
      ·
        refine seg 3 (show iR ((cn (fun k => LF G s (r * 8 + k) o ≠ 0) k) + 1) ∧ iR ((k : Int) + 1) ∧ Wp 102 29 [some (vR 0), some (vI r), some (vI o), some (vI ((cn (fun k => LF G s (r * 8 + k) o ≠ 0) k) + 1)), some (vI ((k : Int) + 1))] [] μ R from ⟨by omega, by omega, ?_⟩)
        exfalso; omega
  | succ n ih =>
    intro k hm
    have hb := cn_rg (fun k => LF G s (r * 8 + k) o ≠ 0) k
    refine seg 5 (show Wp 46 0 [some (vR 8), some (vI r)] [] μ (fun rr μ' => Wp 102 39 [some (vR 0), some (vI r), some (vI o), some (vI (cn (fun k => LF G s (r * 8 + k) o ≠ 0) k)), some (vI (k : Int))] (rr.toList ++ [vI (k : Int)]) μ' R) from ?_)
    refine g46 hc (by omega) ?_
    refine seg 1 (show (hS G r ≤ (k : Int) → Wp 102 65 [some (vR 0), some (vI r), some (vI o), some (vI (cn (fun k => LF G s (r * 8 + k) o ≠ 0) k)), some (vI (k : Int))] [] μ R) ∧ (¬ (hS G r ≤ (k : Int)) → Wp 102 42 [some (vR 0), some (vI r), some (vI o), some (vI (cn (fun k => LF G s (r * 8 + k) o ≠ 0) k)), some (vI (k : Int))] [] μ R) from ⟨fun c3 => ?_, fun c3 => ?_⟩)
    ·
      refine seg 2 (show R (some (vI (cn (fun k => LF G s (r * 8 + k) o ≠ 0) k))) μ from ?_)
      first | (exfalso; omega) | (have e : (hS G r).toNat = k := (by omega); rw [e] at hk; exact hk)
    ·
      refine seg 4 (show Wp 114 0 [some (vI r), some (vI (k : Int))] [] μ (fun rr μ' => Wp 102 49 [some (vR 0), some (vI r), some (vI o), some (vI (cn (fun k => LF G s (r * 8 + k) o ≠ 0) k)), some (vI (k : Int))] (rr.toList ++ [vR 0]) μ' R) from ?_)
      refine s114 (by omega) ?_
      refine seg 2 (show Wp 111 0 [some (vR 0), some (vI (r * 8 + (k : Int))), some (vI o), none, none] [] μ (fun rr μ' => Wp 102 53 [some (vR 0), some (vI r), some (vI o), some (vI (cn (fun k => LF G s (r * 8 + k) o ≠ 0) k)), some (vI (k : Int))] (rr.toList ++ []) μ' R) from ?_)
      refine s111 hh (by omega) ?_
      refine seg 1 (show (LF G s (r * 8 + (k : Int)) o = 0 → Wp 102 59 [some (vR 0), some (vI r), some (vI o), some (vI (cn (fun k => LF G s (r * 8 + k) o ≠ 0) k)), some (vI (k : Int))] [] μ R) ∧ (¬ (LF G s (r * 8 + (k : Int)) o = 0) → Wp 102 56 [some (vR 0), some (vI r), some (vI o), some (vI (cn (fun k => LF G s (r * 8 + k) o ≠ 0) k)), some (vI (k : Int))] [] μ R) from ⟨fun c4 => ?_, fun c4 => ?_⟩)
      ·
        refine seg 2 (show iR ((k : Int) + 1) ∧ Wp 102 29 [some (vR 0), some (vI r), some (vI o), some (vI (cn (fun k => LF G s (r * 8 + k) o ≠ 0) k)), some (vI ((k : Int) + 1))] [] μ R from ⟨by omega, ?_⟩)
        have := ih (k + 1) (by omega)
        first | rw [cn_y (P := (fun k => LF G s (r * 8 + k) o ≠ 0)) (by assumption)] at this | rw [cn_n (P := (fun k => LF G s (r * 8 + k) o ≠ 0)) (by intro z; exact z (by assumption))] at this
        exact this
      ·
        refine seg 3 (show iR ((cn (fun k => LF G s (r * 8 + k) o ≠ 0) k) + 1) ∧ iR ((k : Int) + 1) ∧ Wp 102 29 [some (vR 0), some (vI r), some (vI o), some (vI ((cn (fun k => LF G s (r * 8 + k) o ≠ 0) k) + 1)), some (vI ((k : Int) + 1))] [] μ R from ⟨by omega, by omega, ?_⟩)
        have := ih (k + 1) (by omega)
        first | rw [cn_y (P := (fun k => LF G s (r * 8 + k) o ≠ 0)) (by assumption)] at this | rw [cn_n (P := (fun k => LF G s (r * 8 + k) o ≠ 0)) (by intro z; exact z (by assumption))] at this
        exact this
theorem c102 {G : Hi} {T : Tx} {s : Se} {U : Un} {im : Int → Option Se} {N : Sn} {R : Po} {μ : Mu} (hrc : RC G T s U im N μ) {r o : Int} (h : R (some (vI (aKept G s r o))) μ) : Wp 102 0 [some (vR 0), some (vI r), some (vI o), none, none] [] μ R := by
  have hh := hrc.1
  have hg := hh.1
  have hc := hg.1
  have hn := hc.1.n
  have hs := hh.2.1
  have hok := hh.2.2.1
  refine seg 4 (show Wp 44 0 [some (vR 8), some (vI r)] [] μ (fun rr μ' => Wp 102 8 [some (vR 0), some (vI r), some (vI o), none, none] (rr.toList ++ []) μ' R) from ?_)
  refine g44 hc (fun b1 => ?_) (fun b1 => ?_)
  ·
    refine seg 1 (show (1 = 0 → Wp 102 22 [some (vR 0), some (vI r), some (vI o), none, none] [] μ R) ∧ (¬ (1 = 0) → Wp 102 11 [some (vR 0), some (vI r), some (vI o), none, none] [] μ R) from ⟨fun z => absurd z (by decide), fun _ => ?_⟩)
    refine seg 4 (show Wp 44 0 [some (vR 8), some (vI o)] [] μ (fun rr μ' => Wp 102 19 [some (vR 0), some (vI r), some (vI o), none, none] (rr.toList ++ []) μ' R) from ?_)
    refine g44 hc (fun b2 => ?_) (fun b2 => ?_)
    ·
      refine seg 1 (show (¬ (1 = 0) → Wp 102 24 [some (vR 0), some (vI r), some (vI o), none, none] [] μ R) ∧ (1 = 0 → Wp 102 22 [some (vR 0), some (vI r), some (vI o), none, none] [] μ R) from ⟨fun _ => ?_, fun z => absurd z (by decide)⟩)
      refine seg 4 (show Wp 102 29 [some (vR 0), some (vI r), some (vI o), some (vI 0), some (vI 0)] [] μ R from ?_)
      have hsr := hc.1.s (r := r) (by omega)
      unfold aKept at h
      rw [if_pos (by omega)] at h
      exact l102 hh (by omega) (by omega) h (hS G r).toNat 0 (by omega)
    ·
      refine seg 1 (show (¬ (0 = 0) → Wp 102 24 [some (vR 0), some (vI r), some (vI o), none, none] [] μ R) ∧ (0 = 0 → Wp 102 22 [some (vR 0), some (vI r), some (vI o), none, none] [] μ R) from ⟨fun z => absurd z (by decide), fun _ => ?_⟩)
      refine seg 2 (show R (some (vI (-1))) μ from ?_)
      have e : aKept G s r o = -1 := by
        unfold aKept
        repeat (first | rw [if_pos (by first | omega | assumption)] | rw [if_neg (by first | omega | assumption)])
      rw [← e]; exact h
  ·
    refine seg 1 (show (0 = 0 → Wp 102 22 [some (vR 0), some (vI r), some (vI o), none, none] [] μ R) ∧ (¬ (0 = 0) → Wp 102 11 [some (vR 0), some (vI r), some (vI o), none, none] [] μ R) from ⟨fun _ => ?_, fun z => absurd z (by decide)⟩)
    refine seg 2 (show R (some (vI (-1))) μ from ?_)
    have e : aKept G s r o = -1 := by
      unfold aKept
      repeat (first | rw [if_pos (by first | omega | assumption)] | rw [if_neg (by first | omega | assumption)])
    rw [← e]; exact h
theorem c103 {G : Hi} {T : Tx} {s : Se} {U : Un} {im : Int → Option Se} {N : Sn} {R : Po} {μ : Mu} (hrc : RC G T s U im N μ) {r w : Int} (h : R (some (vI (aComm G r w))) μ) : Wp 103 0 [some (vR 0), some (vI r), some (vI w)] [] μ R := by
  have hh := hrc.1
  have hg := hh.1
  have hc := hg.1
  have hn := hc.1.n
  have hs := hh.2.1
  have hok := hh.2.2.1
  refine seg 4 (show Wp 44 0 [some (vR 8), some (vI r)] [] μ (fun rr μ' => Wp 103 8 [some (vR 0), some (vI r), some (vI w)] (rr.toList ++ []) μ' R) from ?_)
  refine g44 hc (fun b1 => ?_) (fun b1 => ?_)
  ·
    refine seg 1 (show (1 = 0 → Wp 103 20 [some (vR 0), some (vI r), some (vI w)] [] μ R) ∧ (¬ (1 = 0) → Wp 103 11 [some (vR 0), some (vI r), some (vI w)] [] μ R) from ⟨fun z => absurd z (by decide), fun _ => ?_⟩)
    refine seg 2 (show (w < 0 → Wp 103 20 [some (vR 0), some (vI r), some (vI w)] [] μ R) ∧ (¬ (w < 0) → Wp 103 15 [some (vR 0), some (vI r), some (vI w)] [] μ R) from ⟨fun c2 => ?_, fun c2 => ?_⟩)
    ·
      refine seg 2 (show R (some (vI (-1))) μ from ?_)
      have e : aComm G r w = -1 := by
        unfold aComm
        repeat (first | rw [if_pos (by first | omega | assumption)] | rw [if_neg (by first | omega | assumption)])
      rw [← e]; exact h
    ·
      refine seg 3 (show (w < 2 → Wp 103 22 [some (vR 0), some (vI r), some (vI w)] [] μ R) ∧ (¬ (w < 2) → Wp 103 20 [some (vR 0), some (vI r), some (vI w)] [] μ R) from ⟨fun c3 => ?_, fun c3 => ?_⟩)
      ·
        refine seg 5 (show Wp 32 0 [some (vR 12), some (vI w), some (vI r)] [] μ (fun rr μ' => Wp 103 31 [some (vR 0), some (vI r), some (vI w)] (rr.toList ++ []) μ' R) from ?_)
        refine s32 hg (by omega) (by omega) ?_
        refine seg 1 (show R (some (vI (cmA G r w))) μ from ?_)
        have e : aComm G r w = cmA G r w := by
          unfold aComm
          repeat (first | rw [if_pos (by first | omega | assumption)] | rw [if_neg (by first | omega | assumption)])
        rw [← e]; exact h
      ·
        refine seg 2 (show R (some (vI (-1))) μ from ?_)
        have e : aComm G r w = -1 := by
          unfold aComm
          repeat (first | rw [if_pos (by first | omega | assumption)] | rw [if_neg (by first | omega | assumption)])
        rw [← e]; exact h
  ·
    refine seg 1 (show (0 = 0 → Wp 103 20 [some (vR 0), some (vI r), some (vI w)] [] μ R) ∧ (¬ (0 = 0) → Wp 103 11 [some (vR 0), some (vI r), some (vI w)] [] μ R) from ⟨fun _ => ?_, fun z => absurd z (by decide)⟩)
    refine seg 2 (show R (some (vI (-1))) μ from ?_)
    have e : aComm G r w = -1 := by
      unfold aComm
      repeat (first | rw [if_pos (by first | omega | assumption)] | rw [if_neg (by first | omega | assumption)])
    rw [← e]; exact h
theorem l49 {G : Hi} {R : Po} {μ : Mu} (hc : GC G μ) (hk : R (some (vI (SZs G (hN G).toNat))) μ) : ∀ (n r : Nat), hN G - (r : Int) = n → Wp 49 4 [some (vR 8), some (vI (SZs G r)), some (vI (r : Int))] [] μ R := by
  have hn := hc.1.n
  have h80 := hc.2.1
  intro n
  induction n with
  | zero =>
    intro r hm
    have hz := SZs_rg hc.1 r (by omega)
    refine seg 4 (show (μ 8 0 ≤ (r : Int) → Wp 49 33 [some (vR 8), some (vI (SZs G r)), some (vI (r : Int))] [] μ R) ∧ (¬ (μ 8 0 ≤ (r : Int)) → Wp 49 12 [some (vR 8), some (vI (SZs G r)), some (vI (r : Int))] [] μ R) from ⟨fun c1 => ?_, fun c1 => ?_⟩)
    ·
      refine seg 2 (show R (some (vI (SZs G r))) μ from ?_)
      first | (exfalso; omega) | (have e : (hN G).toNat = r := (by omega); rw [e] at hk; exact hk)
    ·
      refine seg 3 (show (8 ≤ (r : Int) → Wp 49 33 [some (vR 8), some (vI (SZs G r)), some (vI (r : Int))] [] μ R) ∧ (¬ (8 ≤ (r : Int)) → Wp 49 18 [some (vR 8), some (vI (SZs G r)), some (vI (r : Int))] [] μ R) from ⟨fun c2 => ?_, fun c2 => ?_⟩)
      ·
        refine seg 2 (show R (some (vI (SZs G r))) μ from ?_)
        first | (exfalso; omega) | (have e : (hN G).toNat = r := (by omega); rw [e] at hk; exact hk)
      ·
        refine seg 9 (show (0 ≤ (r : Int) ∧ (r : Int) < 8) ∧ iR ((SZs G r) + (μ 10 (r : Int))) ∧ iR ((r : Int) + 1) ∧ Wp 49 4 [some (vR 8), some (vI ((SZs G r) + (μ 10 (r : Int)))), some (vI ((r : Int) + 1))] [] μ R from ⟨by omega, by omega, by omega, ?_⟩)
        exfalso; omega
  | succ n ih =>
    intro r hm
    have hz := SZs_rg hc.1 r (by omega)
    have h10 := (hc.2.2 (r : Int) (by omega) (by omega)).1
    have hsr := hc.1.s (r := (r : Int)) (by omega)
    refine seg 4 (show (μ 8 0 ≤ (r : Int) → Wp 49 33 [some (vR 8), some (vI (SZs G r)), some (vI (r : Int))] [] μ R) ∧ (¬ (μ 8 0 ≤ (r : Int)) → Wp 49 12 [some (vR 8), some (vI (SZs G r)), some (vI (r : Int))] [] μ R) from ⟨fun c3 => ?_, fun c3 => ?_⟩)
    ·
      refine seg 2 (show R (some (vI (SZs G r))) μ from ?_)
      first | (exfalso; omega) | (have e : (hN G).toNat = r := (by omega); rw [e] at hk; exact hk)
    ·
      refine seg 3 (show (8 ≤ (r : Int) → Wp 49 33 [some (vR 8), some (vI (SZs G r)), some (vI (r : Int))] [] μ R) ∧ (¬ (8 ≤ (r : Int)) → Wp 49 18 [some (vR 8), some (vI (SZs G r)), some (vI (r : Int))] [] μ R) from ⟨fun c4 => ?_, fun c4 => ?_⟩)
      ·
        refine seg 2 (show R (some (vI (SZs G r))) μ from ?_)
        first | (exfalso; omega) | (have e : (hN G).toNat = r := (by omega); rw [e] at hk; exact hk)
      ·
        refine seg 9 (show (0 ≤ (r : Int) ∧ (r : Int) < 8) ∧ iR ((SZs G r) + (μ 10 (r : Int))) ∧ iR ((r : Int) + 1) ∧ Wp 49 4 [some (vR 8), some (vI ((SZs G r) + (μ 10 (r : Int)))), some (vI ((r : Int) + 1))] [] μ R from ⟨by omega, by omega, by omega, ?_⟩)
        have := ih (r + 1) (by omega)
        rw [SZs, ← h10] at this
        exact this
theorem s49 {G : Hi} {R : Po} {μ : Mu} (hc : GC G μ) (hk : R (some (vI (SZs G (hN G).toNat))) μ) : Wp 49 0 [some (vR 8), none, none] [] μ R := by
  have hn := hc.1.n
  refine seg 4 (show Wp 49 4 [some (vR 8), some (vI 0), some (vI 0)] [] μ R from ?_)
  exact l49 hc hk (hN G).toNat 0 (by omega)
theorem l113a {G : Hi} {s : Se} {R : Po} {μ : Mu} (hh : RH G s μ) {r : Nat} (hr : (r : Int) < hN G) (hk : ∀ o3 : Option PV, Wp 113 55 [some (vR 0), some (vI (OWs G s (r + 1))), some (vI (r : Int)), o3] [] μ R) : ∀ (n k : Nat), hS G (r : Int) - (k : Int) = n → Wp 113 17 [some (vR 0), some (vI (OWs G s r + OW G s (r : Int) k)), some (vI (r : Int)), some (vI (k : Int))] [] μ R := by
  have hc := hh.1.1
  have hn := hc.1.n
  have hsr := hc.1.s (r := (r : Int)) (by omega)
  have hw := OWs_rg hc.1 s r (by omega)
  intro n
  induction n with
  | zero =>
    intro k hm
    have hb := cn_rg (fun k => (og G s (r : Int) k).1 = (r : Int) * 8 + k) k
    have hb : 0 ≤ OW G s (r : Int) k ∧ OW G s (r : Int) k ≤ k := hb
    refine seg 5 (show Wp 46 0 [some (vR 8), some (vI (r : Int))] [] μ (fun rr μ' => Wp 113 26 [some (vR 0), some (vI (OWs G s r + OW G s (r : Int) k)), some (vI (r : Int)), some (vI (k : Int))] (rr.toList ++ [vI (k : Int)]) μ' R) from ?_)
    refine g46 hc (by omega) ?_
    refine seg 1 (show (hS G (r : Int) ≤ (k : Int) → Wp 113 55 [some (vR 0), some (vI (OWs G s r + OW G s (r : Int) k)), some (vI (r : Int)), some (vI (k : Int))] [] μ R) ∧ (¬ (hS G (r : Int) ≤ (k : Int)) → Wp 113 29 [some (vR 0), some (vI (OWs G s r + OW G s (r : Int) k)), some (vI (r : Int)), some (vI (k : Int))] [] μ R) from ⟨fun c1 => ?_, fun c1 => ?_⟩)
    ·
      first | (exfalso; omega) | (have := hk (some (vI (k : Int))); rw [OWs, show (hS G (r : Int)).toNat = k by omega] at this; exact this)
    ·
      refine seg 5 (show Wp 82 0 [some (vR 32), some (vI (r : Int)), some (vI (k : Int))] [] μ (fun rr μ' => Wp 113 38 [some (vR 0), some (vI (OWs G s r + OW G s (r : Int) k)), some (vI (r : Int)), some (vI (k : Int))] (rr.toList ++ []) μ' R) from ?_)
      refine o82 hh (by omega) (by omega) ?_
      refine seg 3 (show Wp 114 0 [some (vI (r : Int)), some (vI (k : Int))] [] μ (fun rr μ' => Wp 113 43 [some (vR 0), some (vI (OWs G s r + OW G s (r : Int) k)), some (vI (r : Int)), some (vI (k : Int))] (rr.toList ++ [vI ((og G s (r : Int) (k : Int)).1)]) μ' R) from ?_)
      refine s114 (by omega) ?_
      refine seg 1 (show (¬ ((og G s (r : Int) (k : Int)).1 = (r : Int) * 8 + (k : Int)) → Wp 113 49 [some (vR 0), some (vI (OWs G s r + OW G s (r : Int) k)), some (vI (r : Int)), some (vI (k : Int))] [] μ R) ∧ ((og G s (r : Int) (k : Int)).1 = (r : Int) * 8 + (k : Int) → Wp 113 46 [some (vR 0), some (vI (OWs G s r + OW G s (r : Int) k)), some (vI (r : Int)), some (vI (k : Int))] [] μ R) from ⟨fun c2 => ?_, fun c2 => ?_⟩)
      ·
        refine seg 2 (show iR ((k : Int) + 1) ∧ Wp 113 17 [some (vR 0), some (vI (OWs G s r + OW G s (r : Int) k)), some (vI (r : Int)), some (vI ((k : Int) + 1))] [] μ R from ⟨by omega, ?_⟩)
        exfalso; omega
      ·
        refine seg 3 (show iR ((OWs G s r + OW G s (r : Int) k) + 1) ∧ iR ((k : Int) + 1) ∧ Wp 113 17 [some (vR 0), some (vI ((OWs G s r + OW G s (r : Int) k) + 1)), some (vI (r : Int)), some (vI ((k : Int) + 1))] [] μ R from ⟨by omega, by omega, ?_⟩)
        exfalso; omega
  | succ n ih =>
    intro k hm
    have hb := cn_rg (fun k => (og G s (r : Int) k).1 = (r : Int) * 8 + k) k
    have hb : 0 ≤ OW G s (r : Int) k ∧ OW G s (r : Int) k ≤ k := hb
    refine seg 5 (show Wp 46 0 [some (vR 8), some (vI (r : Int))] [] μ (fun rr μ' => Wp 113 26 [some (vR 0), some (vI (OWs G s r + OW G s (r : Int) k)), some (vI (r : Int)), some (vI (k : Int))] (rr.toList ++ [vI (k : Int)]) μ' R) from ?_)
    refine g46 hc (by omega) ?_
    refine seg 1 (show (hS G (r : Int) ≤ (k : Int) → Wp 113 55 [some (vR 0), some (vI (OWs G s r + OW G s (r : Int) k)), some (vI (r : Int)), some (vI (k : Int))] [] μ R) ∧ (¬ (hS G (r : Int) ≤ (k : Int)) → Wp 113 29 [some (vR 0), some (vI (OWs G s r + OW G s (r : Int) k)), some (vI (r : Int)), some (vI (k : Int))] [] μ R) from ⟨fun c3 => ?_, fun c3 => ?_⟩)
    ·
      first | (exfalso; omega) | (have := hk (some (vI (k : Int))); rw [OWs, show (hS G (r : Int)).toNat = k by omega] at this; exact this)
    ·
      refine seg 5 (show Wp 82 0 [some (vR 32), some (vI (r : Int)), some (vI (k : Int))] [] μ (fun rr μ' => Wp 113 38 [some (vR 0), some (vI (OWs G s r + OW G s (r : Int) k)), some (vI (r : Int)), some (vI (k : Int))] (rr.toList ++ []) μ' R) from ?_)
      refine o82 hh (by omega) (by omega) ?_
      refine seg 3 (show Wp 114 0 [some (vI (r : Int)), some (vI (k : Int))] [] μ (fun rr μ' => Wp 113 43 [some (vR 0), some (vI (OWs G s r + OW G s (r : Int) k)), some (vI (r : Int)), some (vI (k : Int))] (rr.toList ++ [vI ((og G s (r : Int) (k : Int)).1)]) μ' R) from ?_)
      refine s114 (by omega) ?_
      refine seg 1 (show (¬ ((og G s (r : Int) (k : Int)).1 = (r : Int) * 8 + (k : Int)) → Wp 113 49 [some (vR 0), some (vI (OWs G s r + OW G s (r : Int) k)), some (vI (r : Int)), some (vI (k : Int))] [] μ R) ∧ ((og G s (r : Int) (k : Int)).1 = (r : Int) * 8 + (k : Int) → Wp 113 46 [some (vR 0), some (vI (OWs G s r + OW G s (r : Int) k)), some (vI (r : Int)), some (vI (k : Int))] [] μ R) from ⟨fun c4 => ?_, fun c4 => ?_⟩)
      ·
        refine seg 2 (show iR ((k : Int) + 1) ∧ Wp 113 17 [some (vR 0), some (vI (OWs G s r + OW G s (r : Int) k)), some (vI (r : Int)), some (vI ((k : Int) + 1))] [] μ R from ⟨by omega, ?_⟩)
        have := ih (k + 1) (by omega)
        unfold OW at this
        first | rw [cn_y (P := (fun k => (og G s (r : Int) k).1 = (r : Int) * 8 + k)) (by assumption)] at this | rw [cn_n (P := (fun k => (og G s (r : Int) k).1 = (r : Int) * 8 + k)) (by assumption)] at this
        first | exact this | (rw [← Int.add_assoc] at this; exact this)
      ·
        refine seg 3 (show iR ((OWs G s r + OW G s (r : Int) k) + 1) ∧ iR ((k : Int) + 1) ∧ Wp 113 17 [some (vR 0), some (vI ((OWs G s r + OW G s (r : Int) k) + 1)), some (vI (r : Int)), some (vI ((k : Int) + 1))] [] μ R from ⟨by omega, by omega, ?_⟩)
        have := ih (k + 1) (by omega)
        unfold OW at this
        first | rw [cn_y (P := (fun k => (og G s (r : Int) k).1 = (r : Int) * 8 + k)) (by assumption)] at this | rw [cn_n (P := (fun k => (og G s (r : Int) k).1 = (r : Int) * 8 + k)) (by assumption)] at this
        first | exact this | (rw [← Int.add_assoc] at this; exact this)
theorem l113 {G : Hi} {s : Se} {R : Po} {μ : Mu} (hh : RH G s μ) (hk : R (some (vI (OWs G s (hN G).toNat))) μ) : ∀ (n r : Nat) (o3 : Option PV), hN G - (r : Int) = n → Wp 113 4 [some (vR 0), some (vI (OWs G s r)), some (vI (r : Int)), o3] [] μ R := by
  have hc := hh.1.1
  have hn := hc.1.n
  intro n
  induction n with
  | zero =>
    intro r o3 hm
    refine seg 4 (show Wp 43 0 [some (vR 8)] [] μ (fun rr μ' => Wp 113 12 [some (vR 0), some (vI (OWs G s r)), some (vI (r : Int)), o3] (rr.toList ++ [vI (r : Int)]) μ' R) from ?_)
    refine g43 hc ?_
    refine seg 1 (show (hN G ≤ (r : Int) → Wp 113 61 [some (vR 0), some (vI (OWs G s r)), some (vI (r : Int)), o3] [] μ R) ∧ (¬ (hN G ≤ (r : Int)) → Wp 113 15 [some (vR 0), some (vI (OWs G s r)), some (vI (r : Int)), o3] [] μ R) from ⟨fun c1 => ?_, fun c1 => ?_⟩)
    ·
      refine seg 2 (show R (some (vI (OWs G s r))) μ from ?_)
      first | (exfalso; omega) | (have e : (hN G).toNat = r := (by omega); rw [e] at hk; exact hk)
    ·
      refine seg 2 (show Wp 113 17 [some (vR 0), some (vI (OWs G s r)), some (vI (r : Int)), some (vI 0)] [] μ R from ?_)
      exfalso; omega
  | succ n ih =>
    intro r o3 hm
    refine seg 4 (show Wp 43 0 [some (vR 8)] [] μ (fun rr μ' => Wp 113 12 [some (vR 0), some (vI (OWs G s r)), some (vI (r : Int)), o3] (rr.toList ++ [vI (r : Int)]) μ' R) from ?_)
    refine g43 hc ?_
    refine seg 1 (show (hN G ≤ (r : Int) → Wp 113 61 [some (vR 0), some (vI (OWs G s r)), some (vI (r : Int)), o3] [] μ R) ∧ (¬ (hN G ≤ (r : Int)) → Wp 113 15 [some (vR 0), some (vI (OWs G s r)), some (vI (r : Int)), o3] [] μ R) from ⟨fun c2 => ?_, fun c2 => ?_⟩)
    ·
      refine seg 2 (show R (some (vI (OWs G s r))) μ from ?_)
      first | (exfalso; omega) | (have e : (hN G).toNat = r := (by omega); rw [e] at hk; exact hk)
    ·
      refine seg 2 (show Wp 113 17 [some (vR 0), some (vI (OWs G s r)), some (vI (r : Int)), some (vI 0)] [] μ R from ?_)
      have hsr := hc.1.s (r := (r : Int)) (by omega)
      have := l113a (R := R) hh (r := r) (by omega) (fun o3 => ?_) (hS G (r : Int)).toNat 0 (by omega)
      · rw [show OWs G s r + OW G s (r : Int) 0 = OWs G s r from Int.add_zero _] at this
        exact this
      refine seg 2 (show iR ((r : Int) + 1) ∧ Wp 113 4 [some (vR 0), some (vI (OWs G s (r + 1))), some (vI ((r : Int) + 1)), o3] [] μ R from ⟨by omega, ?_⟩)
      exact ih (r + 1) _ (by omega)
theorem s113 {G : Hi} {s : Se} {R : Po} {μ : Mu} (hh : RH G s μ) (hk : R (some (vI (OWs G s (hN G).toNat))) μ) : Wp 113 0 [some (vR 0), none, none, none] [] μ R := by
  have hn := hh.1.1.1.n
  refine seg 4 (show Wp 113 4 [some (vR 0), some (vI 0), some (vI 0), none] [] μ R from ?_)
  exact l113 hh hk (hN G).toNat 0 none (by omega)
theorem c109 {G : Hi} {T : Tx} {s : Se} {U : Un} {im : Int → Option Se} {N : Sn} {R : Po} {μ : Mu} (hrc : RC G T s U im N μ) {what : Int} (h : R (some (vI (aCnt G T s U N what))) μ) : Wp 109 0 [some (vR 0), some (vI what)] [] μ R := by
  have hh := hrc.1
  have hg := hh.1
  have hc := hg.1
  have hn := hc.1.n
  have hs := hh.2.1
  have hok := hh.2.2.1
  refine seg 2 (show (∀ j : Nat, j < 9 → what = 0 + (j : Int) → Wp 109 ([121, 52, 60, 68, 76, 84, 92, 97, 105, 113].getD (1 + j) 0) [some (vR 0), some (vI what)] [] μ R) ∧ (what < 0 ∨ 8 < what → Wp 109 121 [some (vR 0), some (vI what)] [] μ R) from ⟨fun j hj c1 => ?_, fun c1 => ?_⟩)
  ·
    rcases (show j = 0 ∨ j = 1 ∨ j = 2 ∨ j = 3 ∨ j = 4 ∨ j = 5 ∨ j = 6 ∨ j = 7 ∨ j = 8 by omega) with rfl | rfl | rfl | rfl | rfl | rfl | rfl | rfl | rfl
    ·
      refine seg 3 (show Wp 43 0 [some (vR 8)] [] μ (fun rr μ' => Wp 109 59 [some (vR 0), some (vI what)] (rr.toList ++ []) μ' R) from ?_)
      refine g43 hc ?_
      refine seg 1 (show R (some (vI (hN G))) μ from ?_)
      have e : aCnt G T s U N what = hN G := by
        unfold aCnt
        repeat (first | rw [if_pos (by first | omega | assumption)] | rw [if_neg (by first | omega | assumption)])
      rw [← e]; exact h
    ·
      refine seg 3 (show Wp 60 0 [some (vR 30)] [] μ (fun rr μ' => Wp 109 67 [some (vR 0), some (vI what)] (rr.toList ++ []) μ' R) from ?_)
      refine k60 hs ?_
      refine seg 1 (show R (some (vI s.1)) μ from ?_)
      have e : aCnt G T s U N what = s.1 := by
        unfold aCnt
        repeat (first | rw [if_pos (by first | omega | assumption)] | rw [if_neg (by first | omega | assumption)])
      rw [← e]; exact h
    ·
      refine seg 3 (show Wp 63 0 [some (vR 30)] [] μ (fun rr μ' => Wp 109 75 [some (vR 0), some (vI what)] (rr.toList ++ []) μ' R) from ?_)
      refine k63 hs ?_
      refine seg 1 (show R (some (vI s.2.1)) μ from ?_)
      have e : aCnt G T s U N what = s.2.1 := by
        unfold aCnt
        repeat (first | rw [if_pos (by first | omega | assumption)] | rw [if_neg (by first | omega | assumption)])
      rw [← e]; exact h
    ·
      refine seg 3 (show Wp 66 0 [some (vR 30)] [] μ (fun rr μ' => Wp 109 83 [some (vR 0), some (vI what)] (rr.toList ++ []) μ' R) from ?_)
      refine k66 hs ?_
      refine seg 1 (show R (some (vI s.2.2)) μ from ?_)
      have e : aCnt G T s U N what = s.2.2 := by
        unfold aCnt
        repeat (first | rw [if_pos (by first | omega | assumption)] | rw [if_neg (by first | omega | assumption)])
      rw [← e]; exact h
    ·
      refine seg 3 (show Wp 49 0 [some (vR 8), none, none] [] μ (fun rr μ' => Wp 109 91 [some (vR 0), some (vI what)] (rr.toList ++ []) μ' R) from ?_)
      refine s49 hc ?_
      refine seg 1 (show R (some (vI (SZs G (hN G).toNat))) μ from ?_)
      have e : aCnt G T s U N what = SZs G (hN G).toNat := by
        unfold aCnt
        repeat (first | rw [if_pos (by first | omega | assumption)] | rw [if_neg (by first | omega | assumption)])
      rw [← e]; exact h
    ·
      refine seg 2 (show Wp 113 0 [some (vR 0), none, none, none] [] μ (fun rr μ' => Wp 109 96 [some (vR 0), some (vI what)] (rr.toList ++ []) μ' R) from ?_)
      refine s113 hh ?_
      refine seg 1 (show R (some (vI (OWs G s (hN G).toNat))) μ from ?_)
      have e : aCnt G T s U N what = OWs G s (hN G).toNat := by
        unfold aCnt
        repeat (first | rw [if_pos (by first | omega | assumption)] | rw [if_neg (by first | omega | assumption)])
      rw [← e]; exact h
    ·
      refine seg 3 (show Wp 70 0 [some (vR 42)] [] μ (fun rr μ' => Wp 109 104 [some (vR 0), some (vI what)] (rr.toList ++ []) μ' R) from ?_)
      refine k70 hrc.2.2.2.2 ?_
      refine seg 1 (show R (some (vI N.1)) μ from ?_)
      have e : aCnt G T s U N what = N.1 := by
        unfold aCnt
        repeat (first | rw [if_pos (by first | omega | assumption)] | rw [if_neg (by first | omega | assumption)])
      rw [← e]; exact h
    ·
      refine seg 3 (show Wp 75 0 [some (vR 1)] [] μ (fun rr μ' => Wp 109 112 [some (vR 0), some (vI what)] (rr.toList ++ []) μ' R) from ?_)
      refine k75 hrc.2.1 ?_
      refine seg 1 (show R (some (vI T.1)) μ from ?_)
      have e : aCnt G T s U N what = T.1 := by
        unfold aCnt
        repeat (first | rw [if_pos (by first | omega | assumption)] | rw [if_neg (by first | omega | assumption)])
      rw [← e]; exact h
    ·
      refine seg 3 (show Wp 1 0 [some (vR 40)] [] μ (fun rr μ' => Wp 109 120 [some (vR 0), some (vI what)] (rr.toList ++ []) μ' R) from ?_)
      refine k1 hrc.2.2.1 ?_
      refine seg 1 (show R (some (vI U.1)) μ from ?_)
      have e : aCnt G T s U N what = U.1 := by
        unfold aCnt
        repeat (first | rw [if_pos (by first | omega | assumption)] | rw [if_neg (by first | omega | assumption)])
      rw [← e]; exact h
  ·
    refine seg 2 (show R (some (vI (-1))) μ from ?_)
    have e : aCnt G T s U N what = -1 := by
      unfold aCnt
      repeat (first | rw [if_pos (by first | omega | assumption)] | rw [if_neg (by first | omega | assumption)])
    rw [← e]; exact h
end
