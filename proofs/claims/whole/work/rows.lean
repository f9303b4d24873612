section
-- ===== PART A: goes FIRST, ahead of the names: the tables' words, and 'selects' of the private methods out of them =====
/-- a private method of a class that the tables say can be made, by its rows of tables_1 -/
def lw_okq (q : MethodName × Nat) : Prop := (q.1.cls ≠ "java/lang/invoke/MethodHandle" ∧ q.1.cls ≠ "java/lang/invoke/VarHandle") ∧ Cond.instantiable q.1.cls q.2 ∈ tables_1 ∧ Cond.privateMethod q.1 ∈ tables_1 ∧ Cond.instanceMethod q.1 ∈ tables_1
theorem lw_p0 : lw_okq (⟨"RatchetGroup", "gather", "(I)I"⟩, 10) := ⟨⟨by decide +kernel, by decide +kernel⟩, List.mem_of_getElem? (i := 19) (by decide +kernel), List.mem_of_getElem? (i := 245) (by decide +kernel), List.mem_of_getElem? (i := 246) (by decide +kernel)⟩
theorem lw_p1 : lw_okq (⟨"RatchetGroup", "isEpoch", "(I)Z"⟩, 10) := ⟨⟨by decide +kernel, by decide +kernel⟩, List.mem_of_getElem? (i := 19) (by decide +kernel), List.mem_of_getElem? (i := 257) (by decide +kernel), List.mem_of_getElem? (i := 258) (by decide +kernel)⟩
theorem lw_p2 : lw_okq (⟨"java/lang/Throwable", "fillInStackTrace", "(I)Ljava/lang/Throwable;"⟩, 6) := ⟨⟨by decide +kernel, by decide +kernel⟩, List.mem_of_getElem? (i := 375) (by decide +kernel), List.mem_of_getElem? (i := 373) (by decide +kernel), List.mem_of_getElem? (i := 374) (by decide +kernel)⟩
theorem lw_p3 : lw_okq (⟨"RatchetGroup", "mayPropose", "(I)Z"⟩, 10) := ⟨⟨by decide +kernel, by decide +kernel⟩, List.mem_of_getElem? (i := 19) (by decide +kernel), List.mem_of_getElem? (i := 451) (by decide +kernel), List.mem_of_getElem? (i := 452) (by decide +kernel)⟩
theorem lw_p4 : lw_okq (⟨"RatchetGroup", "isInLatest", "(I)Z"⟩, 10) := ⟨⟨by decide +kernel, by decide +kernel⟩, List.mem_of_getElem? (i := 19) (by decide +kernel), List.mem_of_getElem? (i := 455) (by decide +kernel), List.mem_of_getElem? (i := 456) (by decide +kernel)⟩
theorem lw_p5 : lw_okq (⟨"RatchetGroup", "propose", "(LRatchetGroup$Proposal;)I"⟩, 10) := ⟨⟨by decide +kernel, by decide +kernel⟩, List.mem_of_getElem? (i := 19) (by decide +kernel), List.mem_of_getElem? (i := 477) (by decide +kernel), List.mem_of_getElem? (i := 478) (by decide +kernel)⟩
theorem lw_p6 : lw_okq (⟨"RatchetGroup", "doRemoves", "(LRatchetGroup$Epoch;)V"⟩, 10) := ⟨⟨by decide +kernel, by decide +kernel⟩, List.mem_of_getElem? (i := 19) (by decide +kernel), List.mem_of_getElem? (i := 521) (by decide +kernel), List.mem_of_getElem? (i := 522) (by decide +kernel)⟩
theorem lw_p7 : lw_okq (⟨"RatchetGroup", "dismiss", "(I)V"⟩, 10) := ⟨⟨by decide +kernel, by decide +kernel⟩, List.mem_of_getElem? (i := 19) (by decide +kernel), List.mem_of_getElem? (i := 537) (by decide +kernel), List.mem_of_getElem? (i := 538) (by decide +kernel)⟩
theorem lw_p8 : lw_okq (⟨"RatchetGroup$Tree", "firstLeafWithKey", "(I)I"⟩, 4) := ⟨⟨by decide +kernel, by decide +kernel⟩, List.mem_of_getElem? (i := 98) (by decide +kernel), List.mem_of_getElem? (i := 546) (by decide +kernel), List.mem_of_getElem? (i := 547) (by decide +kernel)⟩
theorem lw_p9 : lw_okq (⟨"RatchetGroup", "doUpdates", "(LRatchetGroup$Epoch;)V"⟩, 10) := ⟨⟨by decide +kernel, by decide +kernel⟩, List.mem_of_getElem? (i := 19) (by decide +kernel), List.mem_of_getElem? (i := 552) (by decide +kernel), List.mem_of_getElem? (i := 553) (by decide +kernel)⟩
theorem lw_p10 : lw_okq (⟨"RatchetGroup", "doAdds", "(LRatchetGroup$Epoch;)V"⟩, 10) := ⟨⟨by decide +kernel, by decide +kernel⟩, List.mem_of_getElem? (i := 19) (by decide +kernel), List.mem_of_getElem? (i := 556) (by decide +kernel), List.mem_of_getElem? (i := 557) (by decide +kernel)⟩
theorem lw_p11 : lw_okq (⟨"RatchetGroup", "mayBeAdded", "(LRatchetGroup$KeyPackage;)Z"⟩, 10) := ⟨⟨by decide +kernel, by decide +kernel⟩, List.mem_of_getElem? (i := 19) (by decide +kernel), List.mem_of_getElem? (i := 560) (by decide +kernel), List.mem_of_getElem? (i := 561) (by decide +kernel)⟩
theorem lw_p12 : lw_okq (⟨"RatchetGroup", "hasLeaf", "(I)Z"⟩, 10) := ⟨⟨by decide +kernel, by decide +kernel⟩, List.mem_of_getElem? (i := 19) (by decide +kernel), List.mem_of_getElem? (i := 564) (by decide +kernel), List.mem_of_getElem? (i := 565) (by decide +kernel)⟩
theorem lw_p13 : lw_okq (⟨"RatchetGroup", "addBy", "(LRatchetGroup$KeyPackage;LRatchetGroup$Epoch;)V"⟩, 10) := ⟨⟨by decide +kernel, by decide +kernel⟩, List.mem_of_getElem? (i := 19) (by decide +kernel), List.mem_of_getElem? (i := 568) (by decide +kernel), List.mem_of_getElem? (i := 569) (by decide +kernel)⟩
theorem lw_p14 : lw_okq (⟨"RatchetGroup", "makePath", "(LRatchetGroup$Epoch;)I"⟩, 10) := ⟨⟨by decide +kernel, by decide +kernel⟩, List.mem_of_getElem? (i := 19) (by decide +kernel), List.mem_of_getElem? (i := 580) (by decide +kernel), List.mem_of_getElem? (i := 581) (by decide +kernel)⟩
theorem lw_p15 : lw_okq (⟨"RatchetGroup", "sendToNodes", "(LRatchetGroup$Epoch;II)V"⟩, 10) := ⟨⟨by decide +kernel, by decide +kernel⟩, List.mem_of_getElem? (i := 19) (by decide +kernel), List.mem_of_getElem? (i := 604) (by decide +kernel), List.mem_of_getElem? (i := 605) (by decide +kernel)⟩
def lw_privs_1 : List (MethodName × Nat) := [(⟨"RatchetGroup", "gather", "(I)I"⟩, 10), (⟨"RatchetGroup", "isEpoch", "(I)Z"⟩, 10), (⟨"java/lang/Throwable", "fillInStackTrace", "(I)Ljava/lang/Throwable;"⟩, 6), (⟨"RatchetGroup", "mayPropose", "(I)Z"⟩, 10), (⟨"RatchetGroup", "isInLatest", "(I)Z"⟩, 10), (⟨"RatchetGroup", "propose", "(LRatchetGroup$Proposal;)I"⟩, 10), (⟨"RatchetGroup", "doRemoves", "(LRatchetGroup$Epoch;)V"⟩, 10), (⟨"RatchetGroup", "dismiss", "(I)V"⟩, 10), (⟨"RatchetGroup$Tree", "firstLeafWithKey", "(I)I"⟩, 4), (⟨"RatchetGroup", "doUpdates", "(LRatchetGroup$Epoch;)V"⟩, 10), (⟨"RatchetGroup", "doAdds", "(LRatchetGroup$Epoch;)V"⟩, 10), (⟨"RatchetGroup", "mayBeAdded", "(LRatchetGroup$KeyPackage;)Z"⟩, 10), (⟨"RatchetGroup", "hasLeaf", "(I)Z"⟩, 10), (⟨"RatchetGroup", "addBy", "(LRatchetGroup$KeyPackage;LRatchetGroup$Epoch;)V"⟩, 10), (⟨"RatchetGroup", "makePath", "(LRatchetGroup$Epoch;)I"⟩, 10), (⟨"RatchetGroup", "sendToNodes", "(LRatchetGroup$Epoch;II)V"⟩, 10)]
theorem lw_r1 : ∀ q ∈ lw_privs_1, lw_okq q := List.forall_mem_cons.mpr ⟨lw_p0, List.forall_mem_cons.mpr ⟨lw_p1, List.forall_mem_cons.mpr ⟨lw_p2, List.forall_mem_cons.mpr ⟨lw_p3, List.forall_mem_cons.mpr ⟨lw_p4, List.forall_mem_cons.mpr ⟨lw_p5, List.forall_mem_cons.mpr ⟨lw_p6, List.forall_mem_cons.mpr ⟨lw_p7, List.forall_mem_cons.mpr ⟨lw_p8, List.forall_mem_cons.mpr ⟨lw_p9, List.forall_mem_cons.mpr ⟨lw_p10, List.forall_mem_cons.mpr ⟨lw_p11, List.forall_mem_cons.mpr ⟨lw_p12, List.forall_mem_cons.mpr ⟨lw_p13, List.forall_mem_cons.mpr ⟨lw_p14, List.forall_mem_cons.mpr ⟨lw_p15, fun _ h => absurd h List.not_mem_nil⟩⟩⟩⟩⟩⟩⟩⟩⟩⟩⟩⟩⟩⟩⟩⟩
theorem lw_p16 : lw_okq (⟨"RatchetGroup", "encrypt", "(LRatchetGroup$Epoch;II)V"⟩, 10) := ⟨⟨by decide +kernel, by decide +kernel⟩, List.mem_of_getElem? (i := 19) (by decide +kernel), List.mem_of_getElem? (i := 608) (by decide +kernel), List.mem_of_getElem? (i := 609) (by decide +kernel)⟩
theorem lw_p17 : lw_okq (⟨"RatchetGroup", "sendToAdded", "(LRatchetGroup$Epoch;III)V"⟩, 10) := ⟨⟨by decide +kernel, by decide +kernel⟩, List.mem_of_getElem? (i := 19) (by decide +kernel), List.mem_of_getElem? (i := 613) (by decide +kernel), List.mem_of_getElem? (i := 614) (by decide +kernel)⟩
theorem lw_p18 : lw_okq (⟨"RatchetGroup", "openEpoch", "(LRatchetGroup$Epoch;LRatchetGroup$Epoch;I)V"⟩, 10) := ⟨⟨by decide +kernel, by decide +kernel⟩, List.mem_of_getElem? (i := 19) (by decide +kernel), List.mem_of_getElem? (i := 617) (by decide +kernel), List.mem_of_getElem? (i := 618) (by decide +kernel)⟩
theorem lw_p19 : lw_okq (⟨"RatchetGroup$Member", "dropOldKeys", "(LRatchetGroup$Tree;)V"⟩, 7) := ⟨⟨by decide +kernel, by decide +kernel⟩, List.mem_of_getElem? (i := 61) (by decide +kernel), List.mem_of_getElem? (i := 626) (by decide +kernel), List.mem_of_getElem? (i := 627) (by decide +kernel)⟩
theorem lw_p20 : lw_okq (⟨"RatchetGroup$Member", "canOpen", "(LRatchetGroup$Epoch;I)Z"⟩, 7) := ⟨⟨by decide +kernel, by decide +kernel⟩, List.mem_of_getElem? (i := 61) (by decide +kernel), List.mem_of_getElem? (i := 666) (by decide +kernel), List.mem_of_getElem? (i := 667) (by decide +kernel)⟩
theorem lw_p21 : lw_okq (⟨"RatchetGroup", "earliestWelcome", "(I)I"⟩, 10) := ⟨⟨by decide +kernel, by decide +kernel⟩, List.mem_of_getElem? (i := 19) (by decide +kernel), List.mem_of_getElem? (i := 672) (by decide +kernel), List.mem_of_getElem? (i := 673) (by decide +kernel)⟩
theorem lw_p22 : lw_okq (⟨"RatchetGroup", "joinBy", "(LRatchetGroup$Member;LRatchetGroup$KeyPackage;)V"⟩, 10) := ⟨⟨by decide +kernel, by decide +kernel⟩, List.mem_of_getElem? (i := 19) (by decide +kernel), List.mem_of_getElem? (i := 676) (by decide +kernel), List.mem_of_getElem? (i := 677) (by decide +kernel)⟩
theorem lw_p23 : lw_okq (⟨"RatchetGroupModel", "make", "(III)I"⟩, 52) := ⟨⟨by decide +kernel, by decide +kernel⟩, List.mem_of_getElem? (i := 690) (by decide +kernel), List.mem_of_getElem? (i := 696) (by decide +kernel), List.mem_of_getElem? (i := 697) (by decide +kernel)⟩
theorem lw_p24 : lw_okq (⟨"RatchetGroupModel", "leave", "(I)V"⟩, 52) := ⟨⟨by decide +kernel, by decide +kernel⟩, List.mem_of_getElem? (i := 690) (by decide +kernel), List.mem_of_getElem? (i := 700) (by decide +kernel), List.mem_of_getElem? (i := 701) (by decide +kernel)⟩
theorem lw_p25 : lw_okq (⟨"RatchetGroupModel", "isAsked", "(IZ)Z"⟩, 52) := ⟨⟨by decide +kernel, by decide +kernel⟩, List.mem_of_getElem? (i := 690) (by decide +kernel), List.mem_of_getElem? (i := 877) (by decide +kernel), List.mem_of_getElem? (i := 878) (by decide +kernel)⟩
theorem lw_p26 : lw_okq (⟨"RatchetGroupModel", "isLatest", "(I)Z"⟩, 52) := ⟨⟨by decide +kernel, by decide +kernel⟩, List.mem_of_getElem? (i := 690) (by decide +kernel), List.mem_of_getElem? (i := 881) (by decide +kernel), List.mem_of_getElem? (i := 882) (by decide +kernel)⟩
theorem lw_p27 : lw_okq (⟨"RatchetGroupModel", "propose", "(III)I"⟩, 52) := ⟨⟨by decide +kernel, by decide +kernel⟩, List.mem_of_getElem? (i := 690) (by decide +kernel), List.mem_of_getElem? (i := 885) (by decide +kernel), List.mem_of_getElem? (i := 886) (by decide +kernel)⟩
theorem lw_p28 : lw_okq (⟨"RatchetGroupModel", "change", "(IZ)V"⟩, 52) := ⟨⟨by decide +kernel, by decide +kernel⟩, List.mem_of_getElem? (i := 690) (by decide +kernel), List.mem_of_getElem? (i := 901) (by decide +kernel), List.mem_of_getElem? (i := 902) (by decide +kernel)⟩
theorem lw_p29 : lw_okq (⟨"RatchetGroupModel", "copyTree", "(II)V"⟩, 52) := ⟨⟨by decide +kernel, by decide +kernel⟩, List.mem_of_getElem? (i := 690) (by decide +kernel), List.mem_of_getElem? (i := 905) (by decide +kernel), List.mem_of_getElem? (i := 906) (by decide +kernel)⟩
theorem lw_p30 : lw_okq (⟨"RatchetGroupModel", "width", "(I)I"⟩, 52) := ⟨⟨by decide +kernel, by decide +kernel⟩, List.mem_of_getElem? (i := 690) (by decide +kernel), List.mem_of_getElem? (i := 909) (by decide +kernel), List.mem_of_getElem? (i := 910) (by decide +kernel)⟩
theorem lw_p31 : lw_okq (⟨"RatchetGroupModel", "findRemoves", "(II)V"⟩, 52) := ⟨⟨by decide +kernel, by decide +kernel⟩, List.mem_of_getElem? (i := 690) (by decide +kernel), List.mem_of_getElem? (i := 913) (by decide +kernel), List.mem_of_getElem? (i := 914) (by decide +kernel)⟩
def lw_privs_2 : List (MethodName × Nat) := [(⟨"RatchetGroup", "encrypt", "(LRatchetGroup$Epoch;II)V"⟩, 10), (⟨"RatchetGroup", "sendToAdded", "(LRatchetGroup$Epoch;III)V"⟩, 10), (⟨"RatchetGroup", "openEpoch", "(LRatchetGroup$Epoch;LRatchetGroup$Epoch;I)V"⟩, 10), (⟨"RatchetGroup$Member", "dropOldKeys", "(LRatchetGroup$Tree;)V"⟩, 7), (⟨"RatchetGroup$Member", "canOpen", "(LRatchetGroup$Epoch;I)Z"⟩, 7), (⟨"RatchetGroup", "earliestWelcome", "(I)I"⟩, 10), (⟨"RatchetGroup", "joinBy", "(LRatchetGroup$Member;LRatchetGroup$KeyPackage;)V"⟩, 10), (⟨"RatchetGroupModel", "make", "(III)I"⟩, 52), (⟨"RatchetGroupModel", "leave", "(I)V"⟩, 52), (⟨"RatchetGroupModel", "isAsked", "(IZ)Z"⟩, 52), (⟨"RatchetGroupModel", "isLatest", "(I)Z"⟩, 52), (⟨"RatchetGroupModel", "propose", "(III)I"⟩, 52), (⟨"RatchetGroupModel", "change", "(IZ)V"⟩, 52), (⟨"RatchetGroupModel", "copyTree", "(II)V"⟩, 52), (⟨"RatchetGroupModel", "width", "(I)I"⟩, 52), (⟨"RatchetGroupModel", "findRemoves", "(II)V"⟩, 52)]
theorem lw_r2 : ∀ q ∈ lw_privs_2, lw_okq q := List.forall_mem_cons.mpr ⟨lw_p16, List.forall_mem_cons.mpr ⟨lw_p17, List.forall_mem_cons.mpr ⟨lw_p18, List.forall_mem_cons.mpr ⟨lw_p19, List.forall_mem_cons.mpr ⟨lw_p20, List.forall_mem_cons.mpr ⟨lw_p21, List.forall_mem_cons.mpr ⟨lw_p22, List.forall_mem_cons.mpr ⟨lw_p23, List.forall_mem_cons.mpr ⟨lw_p24, List.forall_mem_cons.mpr ⟨lw_p25, List.forall_mem_cons.mpr ⟨lw_p26, List.forall_mem_cons.mpr ⟨lw_p27, List.forall_mem_cons.mpr ⟨lw_p28, List.forall_mem_cons.mpr ⟨lw_p29, List.forall_mem_cons.mpr ⟨lw_p30, List.forall_mem_cons.mpr ⟨lw_p31, fun _ h => absurd h List.not_mem_nil⟩⟩⟩⟩⟩⟩⟩⟩⟩⟩⟩⟩⟩⟩⟩⟩
theorem lw_p32 : lw_okq (⟨"RatchetGroupModel", "findUpdates", "(II)V"⟩, 52) := ⟨⟨by decide +kernel, by decide +kernel⟩, List.mem_of_getElem? (i := 690) (by decide +kernel), List.mem_of_getElem? (i := 917) (by decide +kernel), List.mem_of_getElem? (i := 918) (by decide +kernel)⟩
theorem lw_p33 : lw_okq (⟨"RatchetGroupModel", "doRemoves", "(I)V"⟩, 52) := ⟨⟨by decide +kernel, by decide +kernel⟩, List.mem_of_getElem? (i := 690) (by decide +kernel), List.mem_of_getElem? (i := 921) (by decide +kernel), List.mem_of_getElem? (i := 922) (by decide +kernel)⟩
theorem lw_p34 : lw_okq (⟨"RatchetGroupModel", "blank", "(II)V"⟩, 52) := ⟨⟨by decide +kernel, by decide +kernel⟩, List.mem_of_getElem? (i := 690) (by decide +kernel), List.mem_of_getElem? (i := 925) (by decide +kernel), List.mem_of_getElem? (i := 926) (by decide +kernel)⟩
theorem lw_p35 : lw_okq (⟨"RatchetGroupModel", "blankPath", "(II)V"⟩, 52) := ⟨⟨by decide +kernel, by decide +kernel⟩, List.mem_of_getElem? (i := 690) (by decide +kernel), List.mem_of_getElem? (i := 929) (by decide +kernel), List.mem_of_getElem? (i := 930) (by decide +kernel)⟩
theorem lw_p36 : lw_okq (⟨"RatchetGroupModel", "isRightBlank", "(I)Z"⟩, 52) := ⟨⟨by decide +kernel, by decide +kernel⟩, List.mem_of_getElem? (i := 690) (by decide +kernel), List.mem_of_getElem? (i := 936) (by decide +kernel), List.mem_of_getElem? (i := 937) (by decide +kernel)⟩
theorem lw_p37 : lw_okq (⟨"RatchetGroupModel", "doUpdates", "(I)V"⟩, 52) := ⟨⟨by decide +kernel, by decide +kernel⟩, List.mem_of_getElem? (i := 690) (by decide +kernel), List.mem_of_getElem? (i := 940) (by decide +kernel), List.mem_of_getElem? (i := 941) (by decide +kernel)⟩
theorem lw_p38 : lw_okq (⟨"RatchetGroupModel", "set", "(III)V"⟩, 52) := ⟨⟨by decide +kernel, by decide +kernel⟩, List.mem_of_getElem? (i := 690) (by decide +kernel), List.mem_of_getElem? (i := 944) (by decide +kernel), List.mem_of_getElem? (i := 945) (by decide +kernel)⟩
theorem lw_p39 : lw_okq (⟨"RatchetGroupModel", "doAdds", "(I)V"⟩, 52) := ⟨⟨by decide +kernel, by decide +kernel⟩, List.mem_of_getElem? (i := 690) (by decide +kernel), List.mem_of_getElem? (i := 948) (by decide +kernel), List.mem_of_getElem? (i := 949) (by decide +kernel)⟩
theorem lw_p40 : lw_okq (⟨"RatchetGroupModel", "mayAdd", "(II)Z"⟩, 52) := ⟨⟨by decide +kernel, by decide +kernel⟩, List.mem_of_getElem? (i := 690) (by decide +kernel), List.mem_of_getElem? (i := 952) (by decide +kernel), List.mem_of_getElem? (i := 953) (by decide +kernel)⟩
theorem lw_p41 : lw_okq (⟨"RatchetGroupModel", "leafOf", "(II)I"⟩, 52) := ⟨⟨by decide +kernel, by decide +kernel⟩, List.mem_of_getElem? (i := 690) (by decide +kernel), List.mem_of_getElem? (i := 956) (by decide +kernel), List.mem_of_getElem? (i := 957) (by decide +kernel)⟩
theorem lw_p42 : lw_okq (⟨"RatchetGroupModel", "freeLeaf", "(I)I"⟩, 52) := ⟨⟨by decide +kernel, by decide +kernel⟩, List.mem_of_getElem? (i := 690) (by decide +kernel), List.mem_of_getElem? (i := 960) (by decide +kernel), List.mem_of_getElem? (i := 961) (by decide +kernel)⟩
theorem lw_p43 : lw_okq (⟨"RatchetGroupModel", "renew", "(II)I"⟩, 52) := ⟨⟨by decide +kernel, by decide +kernel⟩, List.mem_of_getElem? (i := 690) (by decide +kernel), List.mem_of_getElem? (i := 964) (by decide +kernel), List.mem_of_getElem? (i := 965) (by decide +kernel)⟩
theorem lw_p44 : lw_okq (⟨"RatchetGroupModel", "resolve", "(II)V"⟩, 52) := ⟨⟨by decide +kernel, by decide +kernel⟩, List.mem_of_getElem? (i := 690) (by decide +kernel), List.mem_of_getElem? (i := 968) (by decide +kernel), List.mem_of_getElem? (i := 969) (by decide +kernel)⟩
theorem lw_p45 : lw_okq (⟨"RatchetGroupModel", "of", "(III)I"⟩, 52) := ⟨⟨by decide +kernel, by decide +kernel⟩, List.mem_of_getElem? (i := 690) (by decide +kernel), List.mem_of_getElem? (i := 975) (by decide +kernel), List.mem_of_getElem? (i := 976) (by decide +kernel)⟩
theorem lw_p46 : lw_okq (⟨"RatchetGroupModel", "encrypt", "(III)V"⟩, 52) := ⟨⟨by decide +kernel, by decide +kernel⟩, List.mem_of_getElem? (i := 690) (by decide +kernel), List.mem_of_getElem? (i := 979) (by decide +kernel), List.mem_of_getElem? (i := 980) (by decide +kernel)⟩
theorem lw_p47 : lw_okq (⟨"RatchetGroupModel", "welcome", "(II)V"⟩, 52) := ⟨⟨by decide +kernel, by decide +kernel⟩, List.mem_of_getElem? (i := 690) (by decide +kernel), List.mem_of_getElem? (i := 983) (by decide +kernel), List.mem_of_getElem? (i := 984) (by decide +kernel)⟩
def lw_privs_3 : List (MethodName × Nat) := [(⟨"RatchetGroupModel", "findUpdates", "(II)V"⟩, 52), (⟨"RatchetGroupModel", "doRemoves", "(I)V"⟩, 52), (⟨"RatchetGroupModel", "blank", "(II)V"⟩, 52), (⟨"RatchetGroupModel", "blankPath", "(II)V"⟩, 52), (⟨"RatchetGroupModel", "isRightBlank", "(I)Z"⟩, 52), (⟨"RatchetGroupModel", "doUpdates", "(I)V"⟩, 52), (⟨"RatchetGroupModel", "set", "(III)V"⟩, 52), (⟨"RatchetGroupModel", "doAdds", "(I)V"⟩, 52), (⟨"RatchetGroupModel", "mayAdd", "(II)Z"⟩, 52), (⟨"RatchetGroupModel", "leafOf", "(II)I"⟩, 52), (⟨"RatchetGroupModel", "freeLeaf", "(I)I"⟩, 52), (⟨"RatchetGroupModel", "renew", "(II)I"⟩, 52), (⟨"RatchetGroupModel", "resolve", "(II)V"⟩, 52), (⟨"RatchetGroupModel", "of", "(III)I"⟩, 52), (⟨"RatchetGroupModel", "encrypt", "(III)V"⟩, 52), (⟨"RatchetGroupModel", "welcome", "(II)V"⟩, 52)]
theorem lw_r3 : ∀ q ∈ lw_privs_3, lw_okq q := List.forall_mem_cons.mpr ⟨lw_p32, List.forall_mem_cons.mpr ⟨lw_p33, List.forall_mem_cons.mpr ⟨lw_p34, List.forall_mem_cons.mpr ⟨lw_p35, List.forall_mem_cons.mpr ⟨lw_p36, List.forall_mem_cons.mpr ⟨lw_p37, List.forall_mem_cons.mpr ⟨lw_p38, List.forall_mem_cons.mpr ⟨lw_p39, List.forall_mem_cons.mpr ⟨lw_p40, List.forall_mem_cons.mpr ⟨lw_p41, List.forall_mem_cons.mpr ⟨lw_p42, List.forall_mem_cons.mpr ⟨lw_p43, List.forall_mem_cons.mpr ⟨lw_p44, List.forall_mem_cons.mpr ⟨lw_p45, List.forall_mem_cons.mpr ⟨lw_p46, List.forall_mem_cons.mpr ⟨lw_p47, fun _ h => absurd h List.not_mem_nil⟩⟩⟩⟩⟩⟩⟩⟩⟩⟩⟩⟩⟩⟩⟩⟩
theorem lw_p48 : lw_okq (⟨"RatchetGroupModel", "meeting", "(II)I"⟩, 52) := ⟨⟨by decide +kernel, by decide +kernel⟩, List.mem_of_getElem? (i := 690) (by decide +kernel), List.mem_of_getElem? (i := 987) (by decide +kernel), List.mem_of_getElem? (i := 988) (by decide +kernel)⟩
theorem lw_p49 : lw_okq (⟨"RatchetGroupModel", "advance", "(IIZ)V"⟩, 52) := ⟨⟨by decide +kernel, by decide +kernel⟩, List.mem_of_getElem? (i := 690) (by decide +kernel), List.mem_of_getElem? (i := 991) (by decide +kernel), List.mem_of_getElem? (i := 992) (by decide +kernel)⟩
theorem lw_p50 : lw_okq (⟨"RatchetGroupModel", "keep", "(II)V"⟩, 52) := ⟨⟨by decide +kernel, by decide +kernel⟩, List.mem_of_getElem? (i := 690) (by decide +kernel), List.mem_of_getElem? (i := 995) (by decide +kernel), List.mem_of_getElem? (i := 996) (by decide +kernel)⟩
theorem lw_p51 : lw_okq (⟨"RatchetGroupModel", "tell", "(III)V"⟩, 52) := ⟨⟨by decide +kernel, by decide +kernel⟩, List.mem_of_getElem? (i := 690) (by decide +kernel), List.mem_of_getElem? (i := 999) (by decide +kernel), List.mem_of_getElem? (i := 1000) (by decide +kernel)⟩
theorem lw_p52 : lw_okq (⟨"RatchetGroupModel", "nextPackage", "(I)I"⟩, 52) := ⟨⟨by decide +kernel, by decide +kernel⟩, List.mem_of_getElem? (i := 690) (by decide +kernel), List.mem_of_getElem? (i := 1007) (by decide +kernel), List.mem_of_getElem? (i := 1008) (by decide +kernel)⟩
theorem lw_p53 : lw_okq (⟨"RatchetGroupModel", "join", "(II)V"⟩, 52) := ⟨⟨by decide +kernel, by decide +kernel⟩, List.mem_of_getElem? (i := 690) (by decide +kernel), List.mem_of_getElem? (i := 1011) (by decide +kernel), List.mem_of_getElem? (i := 1012) (by decide +kernel)⟩
theorem lw_p54 : lw_okq (⟨"RatchetGroupModel", "follow", "(I)V"⟩, 52) := ⟨⟨by decide +kernel, by decide +kernel⟩, List.mem_of_getElem? (i := 690) (by decide +kernel), List.mem_of_getElem? (i := 1015) (by decide +kernel), List.mem_of_getElem? (i := 1016) (by decide +kernel)⟩
theorem lw_p55 : lw_okq (⟨"RatchetGroupModel", "gather", "(I)V"⟩, 52) := ⟨⟨by decide +kernel, by decide +kernel⟩, List.mem_of_getElem? (i := 690) (by decide +kernel), List.mem_of_getElem? (i := 1019) (by decide +kernel), List.mem_of_getElem? (i := 1020) (by decide +kernel)⟩
theorem lw_p56 : lw_okq (⟨"RatchetGroupModel", "hold", "(I)V"⟩, 52) := ⟨⟨by decide +kernel, by decide +kernel⟩, List.mem_of_getElem? (i := 690) (by decide +kernel), List.mem_of_getElem? (i := 1023) (by decide +kernel), List.mem_of_getElem? (i := 1024) (by decide +kernel)⟩
theorem lw_p57 : lw_okq (⟨"RatchetGroupModel", "isHeld", "(I)Z"⟩, 52) := ⟨⟨by decide +kernel, by decide +kernel⟩, List.mem_of_getElem? (i := 690) (by decide +kernel), List.mem_of_getElem? (i := 1027) (by decide +kernel), List.mem_of_getElem? (i := 1028) (by decide +kernel)⟩
theorem lw_p58 : lw_okq (⟨"RatchetGroupModel", "intrude", "()V"⟩, 52) := ⟨⟨by decide +kernel, by decide +kernel⟩, List.mem_of_getElem? (i := 690) (by decide +kernel), List.mem_of_getElem? (i := 1067) (by decide +kernel), List.mem_of_getElem? (i := 1068) (by decide +kernel)⟩
theorem lw_p59 : lw_okq (⟨"RatchetGroupModel", "follows", "(I)Z"⟩, 52) := ⟨⟨by decide +kernel, by decide +kernel⟩, List.mem_of_getElem? (i := 690) (by decide +kernel), List.mem_of_getElem? (i := 1071) (by decide +kernel), List.mem_of_getElem? (i := 1072) (by decide +kernel)⟩
def lw_privs_4 : List (MethodName × Nat) := [(⟨"RatchetGroupModel", "meeting", "(II)I"⟩, 52), (⟨"RatchetGroupModel", "advance", "(IIZ)V"⟩, 52), (⟨"RatchetGroupModel", "keep", "(II)V"⟩, 52), (⟨"RatchetGroupModel", "tell", "(III)V"⟩, 52), (⟨"RatchetGroupModel", "nextPackage", "(I)I"⟩, 52), (⟨"RatchetGroupModel", "join", "(II)V"⟩, 52), (⟨"RatchetGroupModel", "follow", "(I)V"⟩, 52), (⟨"RatchetGroupModel", "gather", "(I)V"⟩, 52), (⟨"RatchetGroupModel", "hold", "(I)V"⟩, 52), (⟨"RatchetGroupModel", "isHeld", "(I)Z"⟩, 52), (⟨"RatchetGroupModel", "intrude", "()V"⟩, 52), (⟨"RatchetGroupModel", "follows", "(I)Z"⟩, 52)]
theorem lw_r4 : ∀ q ∈ lw_privs_4, lw_okq q := List.forall_mem_cons.mpr ⟨lw_p48, List.forall_mem_cons.mpr ⟨lw_p49, List.forall_mem_cons.mpr ⟨lw_p50, List.forall_mem_cons.mpr ⟨lw_p51, List.forall_mem_cons.mpr ⟨lw_p52, List.forall_mem_cons.mpr ⟨lw_p53, List.forall_mem_cons.mpr ⟨lw_p54, List.forall_mem_cons.mpr ⟨lw_p55, List.forall_mem_cons.mpr ⟨lw_p56, List.forall_mem_cons.mpr ⟨lw_p57, List.forall_mem_cons.mpr ⟨lw_p58, List.forall_mem_cons.mpr ⟨lw_p59, fun _ h => absurd h List.not_mem_nil⟩⟩⟩⟩⟩⟩⟩⟩⟩⟩⟩⟩
def lw_privs : List (MethodName × Nat) := lw_privs_1 ++ (lw_privs_2 ++ (lw_privs_3 ++ (lw_privs_4)))
def lw_tbl : List Cond := k2_sels lw_privs ++ tables_1
theorem lw_privs_ok : ∀ q ∈ lw_privs, lw_okq q := by
  show ∀ q ∈ lw_privs_1 ++ (lw_privs_2 ++ (lw_privs_3 ++ (lw_privs_4))), lw_okq q
  exact List.forall_mem_append.mpr ⟨lw_r1, List.forall_mem_append.mpr ⟨lw_r2, List.forall_mem_append.mpr ⟨lw_r3, lw_r4⟩⟩⟩
end
section
def RG : String := "RatchetGroup"
def FG : u_T := fun k => match k with
  | 0 => ("RatchetGroup", "secrets", "LRatchetGroup$Secrets;", true)
  | 1 => ("RatchetGroup", "members", "[LRatchetGroup$Member;", true)
  | 2 => ("RatchetGroup", "epochs", "[LRatchetGroup$Epoch;", true)
  | 3 => ("RatchetGroup", "epochCount", "I", false)
  | 4 => ("RatchetGroup", "packages", "[LRatchetGroup$KeyPackage;", true)
  | 5 => ("RatchetGroup", "packageCount", "I", false)
  | 6 => ("RatchetGroup", "proposals", "[LRatchetGroup$Proposal;", true)
  | 7 => ("RatchetGroup", "proposalCount", "I", false)
  | 8 => ("RatchetGroup", "owners", "[I", true)
  | _ => ("RatchetGroup", "held", "[I", true)
def tG : Nat → FieldType := fun k => match k with
  | 0 => (.object "RatchetGroup$Secrets")
  | 1 => (.array (.object "RatchetGroup$Member"))
  | 2 => (.array (.object "RatchetGroup$Epoch"))
  | 3 => .int
  | 4 => (.array (.object "RatchetGroup$KeyPackage"))
  | 5 => .int
  | 6 => (.array (.object "RatchetGroup$Proposal"))
  | 7 => .int
  | 8 => (.array .int)
  | _ => (.array .int)
theorem nG : ∀ a, a < 10 → ∀ b, b < 10 → a ≠ b → (FG a).2.1 ≠ (FG b).2.1 := by decide +kernel
theorem tG_ok : ∀ k, k < 10 → parseFieldDescriptor (FG k).2.2.1 = some (tG k) := by decide +kernel
def RS : String := "RatchetGroup$Secrets"
def FS : u_T := fun k => match k with
  | 0 => ("RatchetGroup$Secrets", "out", "[B", false)
  | 1 => ("RatchetGroup$Secrets", "made", "I", false)
  | 2 => ("RatchetGroup$Secrets", "from", "[I", false)
  | 3 => ("RatchetGroup$Secrets", "also", "[I", false)
  | 4 => ("RatchetGroup$Secrets", "to", "[I", false)
  | _ => ("RatchetGroup$Secrets", "rules", "I", false)
def tS : Nat → FieldType := fun k => match k with
  | 0 => (.array .byte)
  | 1 => .int
  | 2 => (.array .int)
  | 3 => (.array .int)
  | 4 => (.array .int)
  | _ => .int
theorem nS : ∀ a, a < 6 → ∀ b, b < 6 → a ≠ b → (FS a).2.1 ≠ (FS b).2.1 := by decide +kernel
theorem tS_ok : ∀ k, k < 6 → parseFieldDescriptor (FS k).2.2.1 = some (tS k) := by decide +kernel
def RB : String := "RatchetGroup$Member"
def FB : u_T := fun k => match k with
  | 0 => ("RatchetGroup$Member", "epoch", "I", false)
  | 1 => ("RatchetGroup$Member", "leaf", "I", false)
  | 2 => ("RatchetGroup$Member", "secret", "I", false)
  | 3 => ("RatchetGroup$Member", "stuckCount", "I", false)
  | 4 => ("RatchetGroup$Member", "keys", "[I", true)
  | 5 => ("RatchetGroup$Member", "updates", "[I", true)
  | _ => ("RatchetGroup$Member", "updateCount", "I", false)
def tB : Nat → FieldType := fun k => match k with
  | 0 => .int
  | 1 => .int
  | 2 => .int
  | 3 => .int
  | 4 => (.array .int)
  | 5 => (.array .int)
  | _ => .int
theorem nB : ∀ a, a < 7 → ∀ b, b < 7 → a ≠ b → (FB a).2.1 ≠ (FB b).2.1 := by decide +kernel
theorem tB_ok : ∀ k, k < 7 → parseFieldDescriptor (FB k).2.2.1 = some (tB k) := by decide +kernel
def RE : String := "RatchetGroup$Epoch"
def FE : u_T := fun k => match k with
  | 0 => ("RatchetGroup$Epoch", "number", "I", true)
  | 1 => ("RatchetGroup$Epoch", "tree", "LRatchetGroup$Tree;", true)
  | 2 => ("RatchetGroup$Epoch", "committerLeaf", "I", true)
  | 3 => ("RatchetGroup$Epoch", "secret", "I", false)
  | 4 => ("RatchetGroup$Epoch", "counting", "I", false)
  | 5 => ("RatchetGroup$Epoch", "removed", "I", false)
  | 6 => ("RatchetGroup$Epoch", "updated", "I", false)
  | 7 => ("RatchetGroup$Epoch", "added", "I", false)
  | _ => ("RatchetGroup$Epoch", "encrypted", "I", false)
def tE : Nat → FieldType := fun k => match k with
  | 0 => .int
  | 1 => (.object "RatchetGroup$Tree")
  | 2 => .int
  | 3 => .int
  | 4 => .int
  | 5 => .int
  | 6 => .int
  | 7 => .int
  | _ => .int
theorem nE : ∀ a, a < 9 → ∀ b, b < 9 → a ≠ b → (FE a).2.1 ≠ (FE b).2.1 := by decide +kernel
theorem tE_ok : ∀ k, k < 9 → parseFieldDescriptor (FE k).2.2.1 = some (tE k) := by decide +kernel
def RT : String := "RatchetGroup$Tree"
def FT : u_T := fun k => match k with
  | 0 => ("RatchetGroup$Tree", "depth", "I", false)
  | 1 => ("RatchetGroup$Tree", "keys", "[I", true)
  | 2 => ("RatchetGroup$Tree", "born", "[I", true)
  | _ => ("RatchetGroup$Tree", "unmerged", "[I", true)
def tT : Nat → FieldType := fun k => match k with
  | 0 => .int
  | 1 => (.array .int)
  | 2 => (.array .int)
  | _ => (.array .int)
theorem nT : ∀ a, a < 4 → ∀ b, b < 4 → a ≠ b → (FT a).2.1 ≠ (FT b).2.1 := by decide +kernel
theorem tT_ok : ∀ k, k < 4 → parseFieldDescriptor (FT k).2.2.1 = some (tT k) := by decide +kernel
def RK : String := "RatchetGroup$KeyPackage"
def FK : u_T := fun k => match k with
  | 0 => ("RatchetGroup$KeyPackage", "member", "I", true)
  | 1 => ("RatchetGroup$KeyPackage", "firstKey", "I", true)
  | 2 => ("RatchetGroup$KeyPackage", "leafKey", "I", true)
  | 3 => ("RatchetGroup$KeyPackage", "epoch", "I", false)
  | 4 => ("RatchetGroup$KeyPackage", "leaf", "I", false)
  | _ => ("RatchetGroup$KeyPackage", "joined", "Z", false)
def tK : Nat → FieldType := fun k => match k with
  | 0 => .int
  | 1 => .int
  | 2 => .int
  | 3 => .int
  | 4 => .int
  | _ => .boolean
theorem nK : ∀ a, a < 6 → ∀ b, b < 6 → a ≠ b → (FK a).2.1 ≠ (FK b).2.1 := by decide +kernel
theorem tK_ok : ∀ k, k < 6 → parseFieldDescriptor (FK k).2.2.1 = some (tK k) := by decide +kernel
def RP : String := "RatchetGroup$Proposal"
def FP : u_T := fun k => match k with
  | 0 => ("RatchetGroup$Proposal", "kind", "I", true)
  | 1 => ("RatchetGroup$Proposal", "about", "I", true)
  | _ => ("RatchetGroup$Proposal", "key", "I", true)
def tP : Nat → FieldType := fun k => match k with
  | 0 => .int
  | 1 => .int
  | _ => .int
theorem nP : ∀ a, a < 3 → ∀ b, b < 3 → a ≠ b → (FP a).2.1 ≠ (FP b).2.1 := by decide +kernel
theorem tP_ok : ∀ k, k < 3 → parseFieldDescriptor (FP k).2.2.1 = some (tP k) := by decide +kernel
def RR : String := "RatchetGroupModel"
def FR : u_T := fun k => match k with
  | 0 => ("RatchetGroupModel", "thrown", "I", false)
  | 1 => ("RatchetGroupModel", "secrets", "I", false)
  | 2 => ("RatchetGroupModel", "kinds", "[I", true)
  | 3 => ("RatchetGroupModel", "firsts", "[I", true)
  | 4 => ("RatchetGroupModel", "seconds", "[I", true)
  | 5 => ("RatchetGroupModel", "taken", "[Z", true)
  | 6 => ("RatchetGroupModel", "known", "[Z", true)
  | 7 => ("RatchetGroupModel", "encrypted", "I", false)
  | 8 => ("RatchetGroupModel", "encryptedFor", "[I", true)
  | 9 => ("RatchetGroupModel", "encryptedWhat", "[I", true)
  | 10 => ("RatchetGroupModel", "encryptedIn", "[I", true)
  | 11 => ("RatchetGroupModel", "encryptedAt", "[I", true)
  | 12 => ("RatchetGroupModel", "epochs", "I", false)
  | 13 => ("RatchetGroupModel", "depth", "[I", true)
  | 14 => ("RatchetGroupModel", "secret", "[I", true)
  | 15 => ("RatchetGroupModel", "committer", "[I", true)
  | 16 => ("RatchetGroupModel", "counting", "[I", true)
  | 17 => ("RatchetGroupModel", "removed", "[I", true)
  | 18 => ("RatchetGroupModel", "updated", "[I", true)
  | 19 => ("RatchetGroupModel", "added", "[I", true)
  | 20 => ("RatchetGroupModel", "sent", "[I", true)
  | 21 => ("RatchetGroupModel", "withPath", "[Z", true)
  | 22 => ("RatchetGroupModel", "keys", "[I", true)
  | 23 => ("RatchetGroupModel", "unmerged", "[I", true)
  | 24 => ("RatchetGroupModel", "since", "[I", true)
  | 25 => ("RatchetGroupModel", "paths", "[I", true)
  | 26 => ("RatchetGroupModel", "owners", "[I", true)
  | 27 => ("RatchetGroupModel", "at", "[I", true)
  | 28 => ("RatchetGroupModel", "leaf", "[I", true)
  | 29 => ("RatchetGroupModel", "leafKey", "[I", true)
  | 30 => ("RatchetGroupModel", "stuck", "[I", true)
  | 31 => ("RatchetGroupModel", "updates", "[I", true)
  | 32 => ("RatchetGroupModel", "has", "[Z", true)
  | 33 => ("RatchetGroupModel", "nodeKeys", "[I", true)
  | 34 => ("RatchetGroupModel", "updateKeys", "[I", true)
  | 35 => ("RatchetGroupModel", "packages", "I", false)
  | 36 => ("RatchetGroupModel", "packageOf", "[I", true)
  | 37 => ("RatchetGroupModel", "firstKey", "[I", true)
  | 38 => ("RatchetGroupModel", "secondKey", "[I", true)
  | 39 => ("RatchetGroupModel", "usedIn", "[I", true)
  | 40 => ("RatchetGroupModel", "usedAt", "[I", true)
  | 41 => ("RatchetGroupModel", "joined", "[Z", true)
  | 42 => ("RatchetGroupModel", "waiting", "I", false)
  | 43 => ("RatchetGroupModel", "proposed", "[I", true)
  | 44 => ("RatchetGroupModel", "proposer", "[I", true)
  | 45 => ("RatchetGroupModel", "proposal", "[I", true)
  | 46 => ("RatchetGroupModel", "held", "I", false)
  | 47 => ("RatchetGroupModel", "holding", "[I", true)
  | 48 => ("RatchetGroupModel", "resolved", "I", false)
  | 49 => ("RatchetGroupModel", "resolution", "[I", true)
  | 50 => ("RatchetGroupModel", "open", "[I", true)
  | _ => ("RatchetGroupModel", "newKeys", "[I", true)
def tR : Nat → FieldType := fun k => match k with
  | 0 => .int
  | 1 => .int
  | 2 => (.array .int)
  | 3 => (.array .int)
  | 4 => (.array .int)
  | 5 => (.array .boolean)
  | 6 => (.array .boolean)
  | 7 => .int
  | 8 => (.array .int)
  | 9 => (.array .int)
  | 10 => (.array .int)
  | 11 => (.array .int)
  | 12 => .int
  | 13 => (.array .int)
  | 14 => (.array .int)
  | 15 => (.array .int)
  | 16 => (.array .int)
  | 17 => (.array .int)
  | 18 => (.array .int)
  | 19 => (.array .int)
  | 20 => (.array .int)
  | 21 => (.array .boolean)
  | 22 => (.array .int)
  | 23 => (.array .int)
  | 24 => (.array .int)
  | 25 => (.array .int)
  | 26 => (.array .int)
  | 27 => (.array .int)
  | 28 => (.array .int)
  | 29 => (.array .int)
  | 30 => (.array .int)
  | 31 => (.array .int)
  | 32 => (.array .boolean)
  | 33 => (.array .int)
  | 34 => (.array .int)
  | 35 => .int
  | 36 => (.array .int)
  | 37 => (.array .int)
  | 38 => (.array .int)
  | 39 => (.array .int)
  | 40 => (.array .int)
  | 41 => (.array .boolean)
  | 42 => .int
  | 43 => (.array .int)
  | 44 => (.array .int)
  | 45 => (.array .int)
  | 46 => .int
  | 47 => (.array .int)
  | 48 => .int
  | 49 => (.array .int)
  | 50 => (.array .int)
  | _ => (.array .int)
theorem nR : ∀ a, a < 52 → ∀ b, b < 52 → a ≠ b → (FR a).2.1 ≠ (FR b).2.1 := by decide +kernel
theorem tR_ok : ∀ k, k < 52 → parseFieldDescriptor (FR k).2.2.1 = some (tR k) := by decide +kernel
def gh_cl : List vw_C := [(RG, FG, 10), (RS, FS, 6), (RB, FB, 7), (RE, FE, 9), (RT, FT, 4), (RK, FK, 6), (RP, FP, 3), (RR, FR, 52)]
def gh_ty : List FieldType := [.int, .byte, .boolean, .long, (.object "RatchetGroup$Member"), (.object "RatchetGroup$Epoch"), (.object "RatchetGroup$KeyPackage"), (.object "RatchetGroup$Proposal")]
def gh_nw : List Cond := [
  (.arrayOver (.object "RatchetGroup$Member")),
  (.arrayOver (.object "RatchetGroup$Epoch")),
  (.arrayOver (.object "RatchetGroup$KeyPackage")),
  (.arrayOver (.object "RatchetGroup$Proposal")),
  (.castable "[B" "java/lang/Cloneable"),
  (.methodLinkNest "RatchetGroup$Member" 50 ⟨"RatchetGroup", "leafNode", "(I)I"⟩ "RatchetGroup"),
  (.methodLinkNest "RatchetGroup$Tree" 55 ⟨"RatchetGroup", "bit", "(I)I"⟩ "RatchetGroup"),
  (.methodLinkNest "RatchetGroup$Tree" 64 ⟨"RatchetGroup", "leafNodes", "(I)I"⟩ "RatchetGroup"),
  (.castable "java/lang/IndexOutOfBoundsException" "java/lang/IndexOutOfBoundsException"),
  (.castable "java/lang/IllegalStateException" "java/lang/IllegalStateException"),
  (.castable "[I" "java/lang/Cloneable"),
  (.methodLinkNest "RatchetGroup$Tree" 43 ⟨"RatchetGroup", "pathNode", "(II)I"⟩ "RatchetGroup"),
  (.methodLinkNest "RatchetGroup$Tree" 61 ⟨"RatchetGroup", "leafNode", "(I)I"⟩ "RatchetGroup"),
  (.methodLinkNest "RatchetGroup$Member" 86 ⟨"RatchetGroup", "pathNode", "(II)I"⟩ "RatchetGroup"),
  (.methodLinkNest "RatchetGroup$Epoch" 33 ⟨"RatchetGroup", "pathNode", "(II)I"⟩ "RatchetGroup"),
  (.methodLinkNest "RatchetGroup$Epoch" 37 ⟨"RatchetGroup", "bit", "(I)I"⟩ "RatchetGroup"),
  (.methodLinkNest "RatchetGroup$Member" 73 ⟨"RatchetGroup", "bit", "(I)I"⟩ "RatchetGroup"),
  (.methodLinkNest "RatchetGroup$Member" 96 ⟨"RatchetGroup", "leafNodes", "(I)I"⟩ "RatchetGroup")]
def gh_nest (w : Cond) : Bool := match w with
  | .fieldLinkNest _ _ _ _ _ _ => true
  | .methodLinkNest _ _ _ _ => true
  | .arrayOver (.object _) => true
  | .castable _ _ => true
  | _ => false
theorem gh_nw_ok : ∀ w ∈ gh_nw, gh_nest w = true := by decide +kernel
end
section
/-! GHOST HEAPS. A key (a kind, a number) has a cell: its address and what it holds. gh_R: the machine's heap holds the ghost heap. gh_W: the machine, at pc with these locals and this stack, over a heap that holds g, with cb cells and sb slots still to be made, comes to its end. gh_C: a method's contract. -/
abbrev gh_K : Type := Nat × Nat
abbrev gh_E : Type := (Nat × vp_A) ⊕ (Nat × List Value)
abbrev gh_H : Type := gh_K → Option (Nat × gh_E)
abbrev gh_D : Type := va_G × (Nat → ClassId) × Heap
abbrev gh_M : Type := MethodName × ByteArray × Nat × Option FieldType
abbrev gh_Z : Type := Program × Env × Room × State × MethodId × Array Value × List Frame × Method × Code × Nat × (State → Prop)
def gh_e (d : gh_D) (x : gh_E) : va_E := match x with
  | .inl q => .inl (d.2.1 q.1, q.2)
  | .inr o => .inr o
def gh_u (g : gh_H) (k : gh_K) (v : Nat × gh_E) : gh_H := fun q => if q = k then some v else g q
theorem gh_us {g : gh_H} {k : gh_K} {v : Nat × gh_E} : gh_u g k v k = some v := if_pos rfl
theorem gh_un {g : gh_H} {k q : gh_K} {v : Nat × gh_E} (h : q ≠ k) : gh_u g k v q = g q := if_neg h
theorem gh_uu {g : gh_H} {k : gh_K} {v w : Nat × gh_E} : gh_u (gh_u g k v) k w = gh_u g k w := by
  funext q
  by_cases h : q = k
  · subst h; simp [gh_u]
  · simp [gh_u, h]
def gh_T : List Cond := lw_tbl.filter goodWord
theorem gh_in {w : Cond} (i : Nat) (h : lw_tbl[i]? = some w) (hg : goodWord w = true) : w ∈ gh_T := List.mem_filter.mpr ⟨List.mem_of_getElem? h, hg⟩
theorem gh_T_good : ∀ w ∈ gh_T, (w.onTables && w.keeps) = true ∨ ∃ ty, w = .arrayClass ty := fun w h => good_of_word (List.mem_filter.mp h).2
def gh_Kn (d : gh_D) (U : State) : Prop := va_K d.1 gh_cl [] U ∧ (∀ (k : Nat) (ty : FieldType), gh_ty[k]? = some ty → ArrOfT U (d.2.1 k) ty ∧ va_RA U (d.2.1 k) ty) ∧ ∀ w ∈ gh_nw, va_Nw w U
theorem gh_nest_warm {w : Cond} (h : gh_nest w = true) {s U : State} (hW : s.WarmedH U.vm) (hZ : va_Nw w s) : va_Nw w U := by
  unfold gh_nest at h
  split at h
  · exact va_Nw.warmF hW hZ
  · exact va_Nw.warmM hW hZ
  · exact va_AO.moved hW.alike hZ
  · exact va_Nw.warmC hW hZ
  · cases h
theorem gh_Kn.warm {d : gh_D} {s U : State} (hW : s.WarmedH U.vm) (h : gh_Kn d s) : gh_Kn d U :=
  ⟨va_K.moved hW.alike h.1, fun k ty hk => ⟨arrOfT_moved hW.alike (h.2.1 k ty hk).1, (h.2.1 k ty hk).2.moved hW.alike⟩, fun w hw => gh_nest_warm (gh_nw_ok w hw) hW (h.2.2 w hw)⟩
theorem gh_nest_same {w : Cond} (h : gh_nest w = true) {s U : State} (hv : s.vm = U.vm) (hZ : va_Nw w s) : va_Nw w U := by
  unfold gh_nest at h
  split at h
  · exact va_Nw.same rfl hv hZ
  · exact va_Nw.same rfl hv hZ
  · exact va_AO.moved (hv ▸ Vm.Alike.refl s.vm) hZ
  · exact va_Nw.same rfl hv hZ
  · cases h
theorem gh_Kn.calling {d : gh_D} {U : State} {f : JFrame} {mk : MethodId} {a : Array Value} (h : gh_Kn d U) : gh_Kn d (U.calling f mk a) :=
  ⟨va_K.moved (u := U) (U := U.calling f mk a) (Vm.Alike.refl U.vm) h.1, fun k ty hk => ⟨arrOfT_moved (u := U) (E := U.calling f mk a) (Vm.Alike.refl U.vm) (h.2.1 k ty hk).1, va_RA.moved (u := U) (U := U.calling f mk a) (Vm.Alike.refl U.vm) (h.2.1 k ty hk).2⟩, fun w hw => gh_nest_same (s := U) (U := U.calling f mk a) (gh_nw_ok w hw) rfl (h.2.2 w hw)⟩
def gh_R (d : gh_D) (g : gh_H) (H : Heap) : Prop := d.2.2.size ≤ H.size ∧ (∀ q : Nat, q < d.2.2.size → H[q]? = d.2.2[q]?) ∧ (∀ (k : gh_K) (a : Nat) (x : gh_E), g k = some (a, x) → va_at d.1 gh_cl (a, gh_e d x) H ∧ d.2.2.size ≤ a) ∧ ∀ (k1 k2 : gh_K) (a : Nat) (x1 x2 : gh_E), g k1 = some (a, x1) → g k2 = some (a, x2) → k1 = k2
def gh_L (la : Array Slot) (nL : Nat) (ls : List (Option Value)) : Prop := la.size = nL ∧ lv_wf la ∧ ls.length = nL ∧ ∀ (i : Nat) (v : Value), ls[i]? = some (some v) → v.category = 1 ∧ la[i]? = some (.val v)
theorem gh_L.at {la : Array Slot} {nL : Nat} {ls : List (Option Value)} (h : gh_L la nL ls) {i : Nat} {v : Value} (hi : ls[i]? = some (some v)) : la[i]? = some (.val v) := (h.2.2.2 i v hi).2
theorem gh_L.store {la : Array Slot} {nL : Nat} {ls : List (Option Value)} (h : gh_L la nL ls) {i : Nat} {v : Value} (hi : i < ls.length) (hc : v.category = 1) : ∃ la', storeLocals la i v = some la' ∧ gh_L la' nL (ls.set i (some v)) := by
  obtain ⟨h1, h2, h3, h4⟩ := h
  have hh : lv_has la nL ((List.range nL).filterMap (fun j => match ls[j]? with | some (some w) => some (j, w) | _ => none)) := by
    refine ⟨h1, h2, fun q hq => ?_⟩
    obtain ⟨j, -, hj⟩ := List.mem_filterMap.mp hq
    split at hj
    · rename_i w hw
      cases hj
      exact (h4 _ _ hw).2
    · cases hj
  obtain ⟨la', e', k1, k2, k3⟩ := lv_store1 (i := i) (v := v) hh (by omega) hc
  refine ⟨la', e', k1, k2, by simp [h3], fun j w hj => ?_⟩
  by_cases hji : j = i
  · subst hji
    rw [List.getElem?_set_self hi] at hj
    cases hj
    exact ⟨hc, k3 _ List.mem_cons_self⟩
  · rw [List.getElem?_set_ne (fun q => hji q.symm)] at hj
    refine ⟨(h4 j w hj).1, k3 (j, w) (List.mem_cons_of_mem _ (List.mem_filter.mpr ⟨List.mem_filterMap.mpr ⟨j, ?_, by rw [hj]⟩, ?_⟩))⟩
    · rw [List.mem_range, ← h3]
      exact (List.getElem?_eq_some_iff.mp hj).1
    · have := (h4 j w hj).1
      simp [hji, this]
theorem gh_L.forget {la : Array Slot} {nL : Nat} {ls ls' : List (Option Value)} (h : gh_L la nL ls) (hl : ls'.length = ls.length) (hf : ∀ (i : Nat) (v : Value), ls'[i]? = some (some v) → ls[i]? = some (some v)) : gh_L la nL ls' := ⟨h.1, h.2.1, hl.trans h.2.2.1, fun i v hi => h.2.2.2 i v (hf i v hi)⟩
def gh_W (l : Launch) (d : gh_D) (z : gh_Z) (pc : Nat) (ls : List (Option Value)) (st : List Value) (g : gh_H) (cb sb : Nat) : Prop := match z with
  | (p, e, R, s, m, args, below, meth, c, nL, Q) => ∀ (H : Heap) (locs : List Loc) (la : Array Slot) (cells slots : Nat), gh_R d g H → (∀ q ∈ locs, d.2.2.size ≤ q.base) → gh_L la nL ls → cells + cb ≤ R.cells → slots + sb ≤ R.slots → W p l e R s m args below meth c H locs cells slots Q (F0 m pc la st)
def gh_X (d : gh_D) (z : gh_Z) (mm : gh_M) (rm : Room) : Prop := match z with
  | (p, _, R, s, m, args, _, meth, c, nL, _) => CallFix p m c mm.2.1 nL s args gh_T mm.1.cls ∧ meth.sig.returnType = mm.2.2.2 ∧ meth.locks = false ∧ gh_Kn d s ∧ R = rm ∧ meth.name = mm.1.name
def gh_P (d : gh_D) (As : List Value) (g : gh_H) : Array Value → State → Prop := fun a U => a = As.toArray ∧ gh_R d g U.heap ∧ gh_Kn d U
def gh_Qc (d : gh_D) (Po : Option Value → gh_H → Prop) : Array Value → State → Outcome → State → Prop := fun _ _ o t => ∃ (v : Option Value) (g : gh_H), o = .returned v ∧ Po v g ∧ gh_R d g t.heap
def gh_Q (d : gh_D) (z : gh_Z) (Po : Option Value → gh_H → Prop) : Prop := match z with
  | (_, _, R, s, _, args, below, _, _, _, Q) => Q = MQ below (gh_Qc d Po) args s R.cells R.slots (fun q => d.2.2.size ≤ q)
def gh_C (l : Launch) (d : gh_D) (mm : gh_M) (rm : Room) (As : List Value) (g : gh_H) (Po : Option Value → gh_H → Prop) : Prop :=
  Met l mm.1 (.code mm.1 mm.2.1 mm.2.2.1 mm.2.2.2 :: gh_T) rm (gh_P d As g) (gh_Qc d Po) rm.cells rm.slots (fun q => d.2.2.size ≤ q)
theorem gh_P.blind {d : gh_D} {As : List Value} {g : gh_H} : FrameBlind (gh_P d As g) := fun _ _ _ _ q => ⟨q.1, q.2.1, q.2.2.calling⟩
theorem gh_sl : ∀ (As : List Value), (∀ v ∈ As, v.category = 1) → lg_sl As = As.map Slot.val := by
  intro As
  induction As with
  | nil => intro _; rfl
  | cons v As ih =>
    intro h
    have h1 : v.category = 1 := h v List.mem_cons_self
    have h2 := ih (fun w hw => h w (List.mem_cons_of_mem _ hw))
    have h3 : lg_sl (v :: As) = (if v.category = 2 then [Slot.val v, .second] else [.val v]) ++ lg_sl As := by simp [lg_sl]
    rw [h3, h1, h2]
    simp
/-- a contract out of the walk of its body -/
theorem gh_of {l : Launch} {d : gh_D} {mm : gh_M} {rm : Room} {As : List Value} {g : gh_H} {Po : Option Value → gh_H → Prop} (ls : List (Option Value)) (hp : plainName mm.1.cls = true) (hls : ls = As.map some ++ List.replicate (mm.2.2.1 - As.length) none) (hn : As.length ≤ mm.2.2.1) (hc : ∀ v ∈ As, v.category = 1)
    (body : ∀ z : gh_Z, gh_X d z mm rm → gh_Q d z Po → gh_W l d z 0 ls [] g rm.cells rm.slots) : gh_C l d mm rm As g Po := by
  refine Met.ofW (cc := mm.2.1) (maxL := mm.2.2.1) (ret := mm.2.2.2) hp rfl ?_
  intro p e s m args below meth c s₁ B hml hv
  obtain ⟨rfl, hR, hK⟩ := hv
  have hts := atoms_spec (ws := .code mm.1 mm.2.1 mm.2.2.1 mm.2.2.2 :: gh_T) B.pre
  have hown : s.vm.findClass mm.1.cls = some m.cls := findClass_of_methodNamed B.named
  have hin : meth.name = mm.1.name := (name_of_methodNamed B.named B.method).1
  have key := body (p, e, rm, s, m, As.toArray, below, meth, c, mm.2.2.1, MQ below (gh_Qc d Po) As.toArray s rm.cells rm.slots (fun q => d.2.2.size ≤ q)) ⟨⟨B.exec, B.bytes, hml, hown, fun w hw => hts w (List.mem_cons_of_mem _ hw)⟩, B.returns, B.notSynchronized, hK, rfl, hin⟩ rfl
  have hle : (lg_sl As).length ≤ mm.2.2.1 := by rw [gh_sl As hc, List.length_map]; exact hn
  have hl := lv_entry As hle
  rw [lg_entry_eq]
  refine key s.heap [] _ 0 0 hR (fun q h => by cases h) ⟨hl.1, hl.2.1, by rw [hls]; simp; omega, fun i v hi => ?_⟩ (by simp) (by simp)
  rw [hls] at hi
  have hlt : i < As.length := by
    rcases Nat.lt_or_ge i As.length with h | h
    · exact h
    · rw [List.getElem?_append_right (by simpa using h)] at hi
      rw [List.getElem?_replicate] at hi
      split at hi <;> simp at hi
  rw [List.getElem?_append_left (by simpa using hlt)] at hi
  simp at hi
  have hv : v ∈ As := List.mem_of_getElem? hi
  refine ⟨hc v hv, ?_⟩
  obtain ⟨h5, h6⟩ := List.getElem?_eq_some_iff.mp hi
  rw [gh_sl As hc]
  simp [List.getElem?_append, hlt, h6]

section GH
variable {l : Launch} {d : gh_D} {z : gh_Z} {mm : gh_M} {rm : Room} {pc : Nat} {ls : List (Option Value)} {rest : List Value} {g : gh_H} {cb sb : Nat}
theorem gh_iconst (C : gh_X d z mm rm) {n : Int} (v : Int32) (hd : decode mm.2.1 pc = .ok (.iconst n, 1)) (hv : Int32.ofInt n = v) (k : gh_W l d z (pc + 1) ls (.int v :: rest) g cb sb) : gh_W l d z pc ls rest g cb sb := by
  obtain ⟨p, e, R, s, m, args, below, meth, c, nL, Q⟩ := z
  exact fun H locs la ce sl a b h i j => lv_iconst C.1.1 C.1.2.1 hd hv (k H locs la ce sl a b h i j)
theorem gh_bipush (C : gh_X d z mm rm) {n : Int} (v : Int32) (hd : decode mm.2.1 pc = .ok (.bipush n, 2)) (hv : (Int8.ofInt n).toInt32 = v) (k : gh_W l d z (pc + 2) ls (.int v :: rest) g cb sb) : gh_W l d z pc ls rest g cb sb := by
  obtain ⟨p, e, R, s, m, args, below, meth, c, nL, Q⟩ := z
  exact fun H locs la ce sl a b h i j => lv_bipush C.1.1 C.1.2.1 hd hv (k H locs la ce sl a b h i j)
theorem gh_sipush (C : gh_X d z mm rm) {n : Int} (v : Int32) (hd : decode mm.2.1 pc = .ok (.sipush n, 3)) (hv : (Int16.ofInt n).toInt32 = v) (k : gh_W l d z (pc + 3) ls (.int v :: rest) g cb sb) : gh_W l d z pc ls rest g cb sb := by
  obtain ⟨p, e, R, s, m, args, below, meth, c, nL, Q⟩ := z
  exact fun H locs la ce sl a b h i j => lv_sipush C.1.1 C.1.2.1 hd hv (k H locs la ce sl a b h i j)
theorem gh_null (C : gh_X d z mm rm)  (hd : decode mm.2.1 pc = .ok (.aconst_null, 1))  (k : gh_W l d z (pc + 1) ls (.null :: rest) g cb sb) : gh_W l d z pc ls rest g cb sb := by
  obtain ⟨p, e, R, s, m, args, below, meth, c, nL, Q⟩ := z
  exact fun H locs la ce sl a b h i j => lv_null C.1.1 C.1.2.1 hd  (k H locs la ce sl a b h i j)
theorem gh_iadd (C : gh_X d z mm rm) {x y : Int32} (hd : decode mm.2.1 pc = .ok (.iadd, 1))  (k : gh_W l d z (pc + 1) ls (.int (x + y) :: rest) g cb sb) : gh_W l d z pc ls (.int y :: .int x :: rest) g cb sb := by
  obtain ⟨p, e, R, s, m, args, below, meth, c, nL, Q⟩ := z
  exact fun H locs la ce sl a b h i j => lv_iadd C.1.1 C.1.2.1 hd  (k H locs la ce sl a b h i j)
theorem gh_isub (C : gh_X d z mm rm) {x y : Int32} (hd : decode mm.2.1 pc = .ok (.isub, 1))  (k : gh_W l d z (pc + 1) ls (.int (x - y) :: rest) g cb sb) : gh_W l d z pc ls (.int y :: .int x :: rest) g cb sb := by
  obtain ⟨p, e, R, s, m, args, below, meth, c, nL, Q⟩ := z
  exact fun H locs la ce sl a b h i j => lv_isub C.1.1 C.1.2.1 hd  (k H locs la ce sl a b h i j)
theorem gh_imul (C : gh_X d z mm rm) {x y : Int32} (hd : decode mm.2.1 pc = .ok (.imul, 1))  (k : gh_W l d z (pc + 1) ls (.int (x * y) :: rest) g cb sb) : gh_W l d z pc ls (.int y :: .int x :: rest) g cb sb := by
  obtain ⟨p, e, R, s, m, args, below, meth, c, nL, Q⟩ := z
  exact fun H locs la ce sl a b h i j => lv_imul C.1.1 C.1.2.1 hd  (k H locs la ce sl a b h i j)
theorem gh_iand (C : gh_X d z mm rm) {x y : Int32} (hd : decode mm.2.1 pc = .ok (.iand, 1))  (k : gh_W l d z (pc + 1) ls (.int (x &&& y) :: rest) g cb sb) : gh_W l d z pc ls (.int y :: .int x :: rest) g cb sb := by
  obtain ⟨p, e, R, s, m, args, below, meth, c, nL, Q⟩ := z
  exact fun H locs la ce sl a b h i j => lv_iand C.1.1 C.1.2.1 hd  (k H locs la ce sl a b h i j)
theorem gh_ior (C : gh_X d z mm rm) {x y : Int32} (hd : decode mm.2.1 pc = .ok (.ior, 1))  (k : gh_W l d z (pc + 1) ls (.int (x ||| y) :: rest) g cb sb) : gh_W l d z pc ls (.int y :: .int x :: rest) g cb sb := by
  obtain ⟨p, e, R, s, m, args, below, meth, c, nL, Q⟩ := z
  exact fun H locs la ce sl a b h i j => lv_ior C.1.1 C.1.2.1 hd  (k H locs la ce sl a b h i j)
theorem gh_ixor (C : gh_X d z mm rm) {x y : Int32} (hd : decode mm.2.1 pc = .ok (.ixor, 1))  (k : gh_W l d z (pc + 1) ls (.int (x ^^^ y) :: rest) g cb sb) : gh_W l d z pc ls (.int y :: .int x :: rest) g cb sb := by
  obtain ⟨p, e, R, s, m, args, below, meth, c, nL, Q⟩ := z
  exact fun H locs la ce sl a b h i j => lv_ixor C.1.1 C.1.2.1 hd  (k H locs la ce sl a b h i j)
theorem gh_ishl (C : gh_X d z mm rm) {x y : Int32} (hd : decode mm.2.1 pc = .ok (.ishl, 1))  (k : gh_W l d z (pc + 1) ls (.int (x <<< (y &&& 31)) :: rest) g cb sb) : gh_W l d z pc ls (.int y :: .int x :: rest) g cb sb := by
  obtain ⟨p, e, R, s, m, args, below, meth, c, nL, Q⟩ := z
  exact fun H locs la ce sl a b h i j => lv_ishl C.1.1 C.1.2.1 hd  (k H locs la ce sl a b h i j)
theorem gh_ishr (C : gh_X d z mm rm) {x y : Int32} (hd : decode mm.2.1 pc = .ok (.ishr, 1))  (k : gh_W l d z (pc + 1) ls (.int (x >>> (y &&& 31)) :: rest) g cb sb) : gh_W l d z pc ls (.int y :: .int x :: rest) g cb sb := by
  obtain ⟨p, e, R, s, m, args, below, meth, c, nL, Q⟩ := z
  exact fun H locs la ce sl a b h i j => lv_ishr C.1.1 C.1.2.1 hd  (k H locs la ce sl a b h i j)
theorem gh_ineg (C : gh_X d z mm rm) {x : Int32} (hd : decode mm.2.1 pc = .ok (.ineg, 1))  (k : gh_W l d z (pc + 1) ls (.int (-x) :: rest) g cb sb) : gh_W l d z pc ls (.int x :: rest) g cb sb := by
  obtain ⟨p, e, R, s, m, args, below, meth, c, nL, Q⟩ := z
  exact fun H locs la ce sl a b h i j => lv_ineg C.1.1 C.1.2.1 hd  (k H locs la ce sl a b h i j)
theorem gh_i2b (C : gh_X d z mm rm) {x : Int32} (hd : decode mm.2.1 pc = .ok (.i2b, 1))  (k : gh_W l d z (pc + 1) ls (.int x.toInt8.toInt32 :: rest) g cb sb) : gh_W l d z pc ls (.int x :: rest) g cb sb := by
  obtain ⟨p, e, R, s, m, args, below, meth, c, nL, Q⟩ := z
  exact fun H locs la ce sl a b h i j => lv_i2b C.1.1 C.1.2.1 hd rfl (k H locs la ce sl a b h i j)
theorem gh_i2l (C : gh_X d z mm rm) {x : Int32} (hd : decode mm.2.1 pc = .ok (.i2l, 1))  (k : gh_W l d z (pc + 1) ls (.long x.toInt64 :: rest) g cb sb) : gh_W l d z pc ls (.int x :: rest) g cb sb := by
  obtain ⟨p, e, R, s, m, args, below, meth, c, nL, Q⟩ := z
  exact fun H locs la ce sl a b h i j => lv_i2l C.1.1 C.1.2.1 hd rfl (k H locs la ce sl a b h i j)
theorem gh_dup (C : gh_X d z mm rm) {va : Value} (hd : decode mm.2.1 pc = .ok (.dup, 1)) (hva : va.category = 1) (k : gh_W l d z (pc + 1) ls (va :: va :: rest) g cb sb) : gh_W l d z pc ls (va :: rest) g cb sb := by
  obtain ⟨p, e, R, s, m, args, below, meth, c, nL, Q⟩ := z
  exact fun H locs la ce sl a b h i j => lv_dup C.1.1 C.1.2.1 hd hva (k H locs la ce sl a b h i j)
theorem gh_pop (C : gh_X d z mm rm) {va : Value} (hd : decode mm.2.1 pc = .ok (.pop, 1)) (hva : va.category = 1) (k : gh_W l d z (pc + 1) ls rest g cb sb) : gh_W l d z pc ls (va :: rest) g cb sb := by
  obtain ⟨p, e, R, s, m, args, below, meth, c, nL, Q⟩ := z
  exact fun H locs la ce sl a b h i j => lv_pop C.1.1 C.1.2.1 hd hva (k H locs la ce sl a b h i j)
theorem gh_dup_x1 (C : gh_X d z mm rm) {va vb : Value} (hd : decode mm.2.1 pc = .ok (.dup_x1, 1)) (hva : va.category = 1) (hvb : vb.category = 1) (k : gh_W l d z (pc + 1) ls (va :: vb :: va :: rest) g cb sb) : gh_W l d z pc ls (va :: vb :: rest) g cb sb := by
  obtain ⟨p, e, R, s, m, args, below, meth, c, nL, Q⟩ := z
  exact fun H locs la ce sl a b h i j => lv_dup_x1 C.1.1 C.1.2.1 hd hva hvb (k H locs la ce sl a b h i j)
theorem gh_dup_x2 (C : gh_X d z mm rm) {va vb vd : Value} (hd : decode mm.2.1 pc = .ok (.dup_x2, 1)) (hva : va.category = 1) (hvb : vb.category = 1) (hvd : vd.category = 1) (k : gh_W l d z (pc + 1) ls (va :: vb :: vd :: va :: rest) g cb sb) : gh_W l d z pc ls (va :: vb :: vd :: rest) g cb sb := by
  obtain ⟨p, e, R, s, m, args, below, meth, c, nL, Q⟩ := z
  exact fun H locs la ce sl a b h i j => lv_dup_x2 C.1.1 C.1.2.1 hd hva hvb hvd (k H locs la ce sl a b h i j)
theorem gh_dup2 (C : gh_X d z mm rm) {va vb : Value} (hd : decode mm.2.1 pc = .ok (.dup2, 1)) (hva : va.category = 1) (hvb : vb.category = 1) (k : gh_W l d z (pc + 1) ls (va :: vb :: va :: vb :: rest) g cb sb) : gh_W l d z pc ls (va :: vb :: rest) g cb sb := by
  obtain ⟨p, e, R, s, m, args, below, meth, c, nL, Q⟩ := z
  exact fun H locs la ce sl a b h i j => lv_dup2_11 C.1.1 C.1.2.1 hd hva hvb (k H locs la ce sl a b h i j)
theorem gh_iload_n (C : gh_X d z mm rm) {k : Fin 4} {x : Int32} (hd : decode mm.2.1 pc = .ok (.iload_n k, 1)) (hi : ls[(k : Nat)]? = some (some (.int x))) (kk : gh_W l d z (pc + 1) ls (.int x :: rest) g cb sb) : gh_W l d z pc ls rest g cb sb := by
  obtain ⟨p, e, R, s, m, args, below, meth, c, nL, Q⟩ := z
  exact fun H locs la ce sl a b h i j => lv_iload_n C.1.1 C.1.2.1 hd rfl (h.at hi) (kk H locs la ce sl a b h i j)
theorem gh_iload (C : gh_X d z mm rm) {k : Nat} {x : Int32} (hd : decode mm.2.1 pc = .ok (.iload k, 2)) (hi : ls[k]? = some (some (.int x))) (kk : gh_W l d z (pc + 2) ls (.int x :: rest) g cb sb) : gh_W l d z pc ls rest g cb sb := by
  obtain ⟨p, e, R, s, m, args, below, meth, c, nL, Q⟩ := z
  exact fun H locs la ce sl a b h i j => lv_iload C.1.1 C.1.2.1 hd (h.at hi) (kk H locs la ce sl a b h i j)
theorem gh_aload_n (C : gh_X d z mm rm) {k : Fin 4} {x : Nat} (hd : decode mm.2.1 pc = .ok (.aload_n k, 1)) (hi : ls[(k : Nat)]? = some (some (.ref x))) (kk : gh_W l d z (pc + 1) ls (.ref x :: rest) g cb sb) : gh_W l d z pc ls rest g cb sb := by
  obtain ⟨p, e, R, s, m, args, below, meth, c, nL, Q⟩ := z
  exact fun H locs la ce sl a b h i j => lv_aload_n C.1.1 C.1.2.1 hd rfl (h.at hi) (kk H locs la ce sl a b h i j)
theorem gh_aload (C : gh_X d z mm rm) {k : Nat} {x : Nat} (hd : decode mm.2.1 pc = .ok (.aload k, 2)) (hi : ls[k]? = some (some (.ref x))) (kk : gh_W l d z (pc + 2) ls (.ref x :: rest) g cb sb) : gh_W l d z pc ls rest g cb sb := by
  obtain ⟨p, e, R, s, m, args, below, meth, c, nL, Q⟩ := z
  exact fun H locs la ce sl a b h i j => lv_aload C.1.1 C.1.2.1 hd (h.at hi) (kk H locs la ce sl a b h i j)
theorem gh_istore_n (C : gh_X d z mm rm) {k : Fin 4} {x : Int32} (ls1 : List (Option Value)) (hd : decode mm.2.1 pc = .ok (.istore_n k, 1)) (hs : ls.set (k : Nat) (some (.int x)) = ls1) (hk : (k : Nat) < ls.length) (kk : gh_W l d z (pc + 1) ls1 rest g cb sb) : gh_W l d z pc ls (.int x :: rest) g cb sb := by
  obtain ⟨p, e, R, s, m, args, below, meth, c, nL, Q⟩ := z
  intro H locs la ce sl a b h i j
  subst hs
  obtain ⟨la1, e1, h1⟩ := h.store (v := .int x) hk rfl
  intro T hT X
  obtain ⟨t, a1, b1⟩ := kk H locs la1 ce sl a b h1 i j T hT X
  refine ⟨t, ?_, b1⟩
  have hx := C.1.1
  have hb := C.1.2.1
  jvm_step X.here [X.here.top, ↓top_set X.here.top, hx, hb, hd, e1]
  exact a1
theorem gh_istore (C : gh_X d z mm rm) {k : Nat} {x : Int32} (ls1 : List (Option Value)) (hd : decode mm.2.1 pc = .ok (.istore k, 2)) (hs : ls.set (k : Nat) (some (.int x)) = ls1) (hk : (k : Nat) < ls.length) (kk : gh_W l d z (pc + 2) ls1 rest g cb sb) : gh_W l d z pc ls (.int x :: rest) g cb sb := by
  obtain ⟨p, e, R, s, m, args, below, meth, c, nL, Q⟩ := z
  intro H locs la ce sl a b h i j
  subst hs
  obtain ⟨la1, e1, h1⟩ := h.store (v := .int x) hk rfl
  intro T hT X
  obtain ⟨t, a1, b1⟩ := kk H locs la1 ce sl a b h1 i j T hT X
  refine ⟨t, ?_, b1⟩
  have hx := C.1.1
  have hb := C.1.2.1
  jvm_step X.here [X.here.top, ↓top_set X.here.top, hx, hb, hd, e1]
  exact a1
theorem gh_astore_n (C : gh_X d z mm rm) {k : Fin 4} {x : Nat} (ls1 : List (Option Value)) (hd : decode mm.2.1 pc = .ok (.astore_n k, 1)) (hs : ls.set (k : Nat) (some (.ref x)) = ls1) (hk : (k : Nat) < ls.length) (kk : gh_W l d z (pc + 1) ls1 rest g cb sb) : gh_W l d z pc ls (.ref x :: rest) g cb sb := by
  obtain ⟨p, e, R, s, m, args, below, meth, c, nL, Q⟩ := z
  intro H locs la ce sl a b h i j
  subst hs
  obtain ⟨la1, e1, h1⟩ := h.store (v := .ref x) hk rfl
  intro T hT X
  obtain ⟨t, a1, b1⟩ := kk H locs la1 ce sl a b h1 i j T hT X
  refine ⟨t, ?_, b1⟩
  have hx := C.1.1
  have hb := C.1.2.1
  jvm_step X.here [X.here.top, ↓top_set X.here.top, hx, hb, hd, e1]
  exact ⟨rfl, a1⟩
theorem gh_astore (C : gh_X d z mm rm) {k : Nat} {x : Nat} (ls1 : List (Option Value)) (hd : decode mm.2.1 pc = .ok (.astore k, 2)) (hs : ls.set (k : Nat) (some (.ref x)) = ls1) (hk : (k : Nat) < ls.length) (kk : gh_W l d z (pc + 2) ls1 rest g cb sb) : gh_W l d z pc ls (.ref x :: rest) g cb sb := by
  obtain ⟨p, e, R, s, m, args, below, meth, c, nL, Q⟩ := z
  intro H locs la ce sl a b h i j
  subst hs
  obtain ⟨la1, e1, h1⟩ := h.store (v := .ref x) hk rfl
  intro T hT X
  obtain ⟨t, a1, b1⟩ := kk H locs la1 ce sl a b h1 i j T hT X
  refine ⟨t, ?_, b1⟩
  have hx := C.1.1
  have hb := C.1.2.1
  jvm_step X.here [X.here.top, ↓top_set X.here.top, hx, hb, hd, e1]
  exact ⟨rfl, a1⟩
theorem gh_iinc (C : gh_X d z mm rm) {k : Nat} {n : Int} {x : Int32} (v : Int32) (ls1 : List (Option Value)) (hd : decode mm.2.1 pc = .ok (.iinc k n, 3)) (hi : ls[k]? = some (some (.int x))) (hv : x + Int32.ofInt n = v) (hs : ls.set k (some (.int v)) = ls1) (kk : gh_W l d z (pc + 3) ls1 rest g cb sb) : gh_W l d z pc ls rest g cb sb := by
  obtain ⟨p, e, R, s, m, args, below, meth, c, nL, Q⟩ := z
  intro H locs la ce sl a b h i j
  subst hs
  subst hv
  obtain ⟨la1, e1, h1⟩ := h.store (v := .int (x + Int32.ofInt n)) (List.getElem?_eq_some_iff.mp hi).1 rfl
  have hg := h.at hi
  intro T hT X
  obtain ⟨t, a1, b1⟩ := kk H locs la1 ce sl a b h1 i j T hT X
  refine ⟨t, ?_, b1⟩
  have hx := C.1.1
  have hb := C.1.2.1
  jvm_step X.here [X.here.top, ↓top_set X.here.top, hx, hb, hd, hg, e1]
  exact a1
theorem gh_if_eq (C : gh_X d z mm rm) {x : Int32} {off : Int} (tgt : Nat) (hd : decode mm.2.1 pc = .ok (.ifCond .eq off, 3)) (ht : (pc : Int) + off = (tgt : Int)) (kt : x = 0 → gh_W l d z tgt ls rest g cb sb) (kf : ¬ x = 0 → gh_W l d z (pc + 3) ls rest g cb sb) : gh_W l d z pc ls (.int x :: rest) g cb sb := by
  obtain ⟨p, e, R, s, m, args, below, meth, c, nL, Q⟩ := z
  exact fun H locs la ce sl a b h i j => lv_if_eq C.1.1 C.1.2.1 hd ht (fun q => kt q H locs la ce sl a b h i j) (fun q => kf q H locs la ce sl a b h i j)
theorem gh_icmp_eq (C : gh_X d z mm rm) {x y : Int32} {off : Int} (tgt : Nat) (hd : decode mm.2.1 pc = .ok (.if_icmp .eq off, 3)) (ht : (pc : Int) + off = (tgt : Int)) (kt : x = y → gh_W l d z tgt ls rest g cb sb) (kf : ¬ x = y → gh_W l d z (pc + 3) ls rest g cb sb) : gh_W l d z pc ls (.int y :: .int x :: rest) g cb sb := by
  obtain ⟨p, e, R, s, m, args, below, meth, c, nL, Q⟩ := z
  exact fun H locs la ce sl a b h i j => lv_icmp_eq C.1.1 C.1.2.1 hd ht (fun q => kt q H locs la ce sl a b h i j) (fun q => kf q H locs la ce sl a b h i j)
theorem gh_if_ne (C : gh_X d z mm rm) {x : Int32} {off : Int} (tgt : Nat) (hd : decode mm.2.1 pc = .ok (.ifCond .ne off, 3)) (ht : (pc : Int) + off = (tgt : Int)) (kt : ¬ x = 0 → gh_W l d z tgt ls rest g cb sb) (kf : x = 0 → gh_W l d z (pc + 3) ls rest g cb sb) : gh_W l d z pc ls (.int x :: rest) g cb sb := by
  obtain ⟨p, e, R, s, m, args, below, meth, c, nL, Q⟩ := z
  exact fun H locs la ce sl a b h i j => lv_if_ne C.1.1 C.1.2.1 hd ht (fun q => kt q H locs la ce sl a b h i j) (fun q => kf q H locs la ce sl a b h i j)
theorem gh_icmp_ne (C : gh_X d z mm rm) {x y : Int32} {off : Int} (tgt : Nat) (hd : decode mm.2.1 pc = .ok (.if_icmp .ne off, 3)) (ht : (pc : Int) + off = (tgt : Int)) (kt : ¬ x = y → gh_W l d z tgt ls rest g cb sb) (kf : x = y → gh_W l d z (pc + 3) ls rest g cb sb) : gh_W l d z pc ls (.int y :: .int x :: rest) g cb sb := by
  obtain ⟨p, e, R, s, m, args, below, meth, c, nL, Q⟩ := z
  exact fun H locs la ce sl a b h i j => lv_icmp_ne C.1.1 C.1.2.1 hd ht (fun q => kt q H locs la ce sl a b h i j) (fun q => kf q H locs la ce sl a b h i j)
theorem gh_if_lt (C : gh_X d z mm rm) {x : Int32} {off : Int} (tgt : Nat) (hd : decode mm.2.1 pc = .ok (.ifCond .lt off, 3)) (ht : (pc : Int) + off = (tgt : Int)) (kt : x < 0 → gh_W l d z tgt ls rest g cb sb) (kf : ¬ x < 0 → gh_W l d z (pc + 3) ls rest g cb sb) : gh_W l d z pc ls (.int x :: rest) g cb sb := by
  obtain ⟨p, e, R, s, m, args, below, meth, c, nL, Q⟩ := z
  exact fun H locs la ce sl a b h i j => lv_if_lt C.1.1 C.1.2.1 hd ht (fun q => kt q H locs la ce sl a b h i j) (fun q => kf q H locs la ce sl a b h i j)
theorem gh_icmp_lt (C : gh_X d z mm rm) {x y : Int32} {off : Int} (tgt : Nat) (hd : decode mm.2.1 pc = .ok (.if_icmp .lt off, 3)) (ht : (pc : Int) + off = (tgt : Int)) (kt : x < y → gh_W l d z tgt ls rest g cb sb) (kf : ¬ x < y → gh_W l d z (pc + 3) ls rest g cb sb) : gh_W l d z pc ls (.int y :: .int x :: rest) g cb sb := by
  obtain ⟨p, e, R, s, m, args, below, meth, c, nL, Q⟩ := z
  exact fun H locs la ce sl a b h i j => lv_icmp_lt C.1.1 C.1.2.1 hd ht (fun q => kt q H locs la ce sl a b h i j) (fun q => kf q H locs la ce sl a b h i j)
theorem gh_if_ge (C : gh_X d z mm rm) {x : Int32} {off : Int} (tgt : Nat) (hd : decode mm.2.1 pc = .ok (.ifCond .ge off, 3)) (ht : (pc : Int) + off = (tgt : Int)) (kt : 0 ≤ x → gh_W l d z tgt ls rest g cb sb) (kf : ¬ 0 ≤ x → gh_W l d z (pc + 3) ls rest g cb sb) : gh_W l d z pc ls (.int x :: rest) g cb sb := by
  obtain ⟨p, e, R, s, m, args, below, meth, c, nL, Q⟩ := z
  exact fun H locs la ce sl a b h i j => lv_if_ge C.1.1 C.1.2.1 hd ht (fun q => kt q H locs la ce sl a b h i j) (fun q => kf q H locs la ce sl a b h i j)
theorem gh_icmp_ge (C : gh_X d z mm rm) {x y : Int32} {off : Int} (tgt : Nat) (hd : decode mm.2.1 pc = .ok (.if_icmp .ge off, 3)) (ht : (pc : Int) + off = (tgt : Int)) (kt : y ≤ x → gh_W l d z tgt ls rest g cb sb) (kf : ¬ y ≤ x → gh_W l d z (pc + 3) ls rest g cb sb) : gh_W l d z pc ls (.int y :: .int x :: rest) g cb sb := by
  obtain ⟨p, e, R, s, m, args, below, meth, c, nL, Q⟩ := z
  exact fun H locs la ce sl a b h i j => lv_icmp_ge C.1.1 C.1.2.1 hd ht (fun q => kt q H locs la ce sl a b h i j) (fun q => kf q H locs la ce sl a b h i j)
theorem gh_if_gt (C : gh_X d z mm rm) {x : Int32} {off : Int} (tgt : Nat) (hd : decode mm.2.1 pc = .ok (.ifCond .gt off, 3)) (ht : (pc : Int) + off = (tgt : Int)) (kt : 0 < x → gh_W l d z tgt ls rest g cb sb) (kf : ¬ 0 < x → gh_W l d z (pc + 3) ls rest g cb sb) : gh_W l d z pc ls (.int x :: rest) g cb sb := by
  obtain ⟨p, e, R, s, m, args, below, meth, c, nL, Q⟩ := z
  exact fun H locs la ce sl a b h i j => lv_if_gt C.1.1 C.1.2.1 hd ht (fun q => kt q H locs la ce sl a b h i j) (fun q => kf q H locs la ce sl a b h i j)
theorem gh_icmp_gt (C : gh_X d z mm rm) {x y : Int32} {off : Int} (tgt : Nat) (hd : decode mm.2.1 pc = .ok (.if_icmp .gt off, 3)) (ht : (pc : Int) + off = (tgt : Int)) (kt : y < x → gh_W l d z tgt ls rest g cb sb) (kf : ¬ y < x → gh_W l d z (pc + 3) ls rest g cb sb) : gh_W l d z pc ls (.int y :: .int x :: rest) g cb sb := by
  obtain ⟨p, e, R, s, m, args, below, meth, c, nL, Q⟩ := z
  exact fun H locs la ce sl a b h i j => lv_icmp_gt C.1.1 C.1.2.1 hd ht (fun q => kt q H locs la ce sl a b h i j) (fun q => kf q H locs la ce sl a b h i j)
theorem gh_if_le (C : gh_X d z mm rm) {x : Int32} {off : Int} (tgt : Nat) (hd : decode mm.2.1 pc = .ok (.ifCond .le off, 3)) (ht : (pc : Int) + off = (tgt : Int)) (kt : x ≤ 0 → gh_W l d z tgt ls rest g cb sb) (kf : ¬ x ≤ 0 → gh_W l d z (pc + 3) ls rest g cb sb) : gh_W l d z pc ls (.int x :: rest) g cb sb := by
  obtain ⟨p, e, R, s, m, args, below, meth, c, nL, Q⟩ := z
  exact fun H locs la ce sl a b h i j => lv_if_le C.1.1 C.1.2.1 hd ht (fun q => kt q H locs la ce sl a b h i j) (fun q => kf q H locs la ce sl a b h i j)
theorem gh_icmp_le (C : gh_X d z mm rm) {x y : Int32} {off : Int} (tgt : Nat) (hd : decode mm.2.1 pc = .ok (.if_icmp .le off, 3)) (ht : (pc : Int) + off = (tgt : Int)) (kt : x ≤ y → gh_W l d z tgt ls rest g cb sb) (kf : ¬ x ≤ y → gh_W l d z (pc + 3) ls rest g cb sb) : gh_W l d z pc ls (.int y :: .int x :: rest) g cb sb := by
  obtain ⟨p, e, R, s, m, args, below, meth, c, nL, Q⟩ := z
  exact fun H locs la ce sl a b h i j => lv_icmp_le C.1.1 C.1.2.1 hd ht (fun q => kt q H locs la ce sl a b h i j) (fun q => kf q H locs la ce sl a b h i j)
theorem gh_goto (C : gh_X d z mm rm) {off : Int} (tgt : Nat) (hd : decode mm.2.1 pc = .ok (.goto off, 3)) (ht : (pc : Int) + off = (tgt : Int)) (k : gh_W l d z tgt ls rest g cb sb) : gh_W l d z pc ls rest g cb sb := by
  obtain ⟨p, e, R, s, m, args, below, meth, c, nL, Q⟩ := z
  exact fun H locs la ce sl a b h i j => lv_goto C.1.1 C.1.2.1 hd ht (k H locs la ce sl a b h i j)
theorem gh_tabIn (C : gh_X d z mm rm) {dflt lo hi : Int} {offs : Array Int} {len : Nat} {x : Int32} {off : Int} (tgt : Nat) (hd : decode mm.2.1 pc = .ok (.tableswitch dflt lo hi offs, len)) (h1 : ¬ x.toInt < lo) (h2 : ¬ hi < x.toInt) (ho : offs[(x.toInt - lo).toNat]? = some off) (ht : (pc : Int) + off = (tgt : Int)) (k : gh_W l d z tgt ls rest g cb sb) : gh_W l d z pc ls (.int x :: rest) g cb sb := by
  obtain ⟨p, e, R, s, m, args, below, meth, c, nL, Q⟩ := z
  exact fun H locs la ce sl a b h i j => lv_tableIn C.1.1 C.1.2.1 hd h1 h2 ho ht (k H locs la ce sl a b h i j)
theorem gh_tabOut (C : gh_X d z mm rm) {dflt lo hi : Int} {offs : Array Int} {len : Nat} {x : Int32} (tgt : Nat) (hd : decode mm.2.1 pc = .ok (.tableswitch dflt lo hi offs, len)) (h : x.toInt < lo ∨ hi < x.toInt) (ht : (pc : Int) + dflt = (tgt : Int)) (k : gh_W l d z tgt ls rest g cb sb) : gh_W l d z pc ls (.int x :: rest) g cb sb := by
  obtain ⟨p, e, R, s, m, args, below, meth, c, nL, Q⟩ := z
  exact fun H locs la ce sl a b h9 i j => lv_tableOut C.1.1 C.1.2.1 hd h ht (k H locs la ce sl a b h9 i j)
theorem gh_forget (C : gh_X d z mm rm) (ls1 : List (Option Value)) (hl : ls1.length = ls.length) (hf : ∀ (i : Nat) (v : Value), ls1[i]? = some (some v) → ls[i]? = some (some v)) (k : gh_W l d z pc ls1 rest g cb sb) : gh_W l d z pc ls rest g cb sb := by
  obtain ⟨p, e, R, s, m, args, below, meth, c, nL, Q⟩ := z
  exact fun H locs la ce sl a b h i j => k H locs la ce sl a b (h.forget hl hf) i j
theorem gh_less (C : gh_X d z mm rm) (cb1 sb1 : Nat) (h1 : cb1 ≤ cb) (h2 : sb1 ≤ sb) (k : gh_W l d z pc ls rest g cb1 sb1) : gh_W l d z pc ls rest g cb sb := by
  obtain ⟨p, e, R, s, m, args, below, meth, c, nL, Q⟩ := z
  exact fun H locs la ce sl a b h i j => k H locs la ce sl a b h (by omega) (by omega)
/-- a field that an instruction at 'index' of class own names: of class ci, slot k -/
def gh_F (own : String) (index ci k : Nat) : Prop := ∃ r : vw_C, gh_cl[ci]? = some r ∧ k < r.2.2 ∧ (∀ w ∈ u_ws r.1 r.2.1 r.2.2, w ∈ gh_T) ∧ (Cond.fieldLink own index (r.2.1 k).1 (r.2.1 k).2.1 (r.2.1 k).2.2.1 ∈ gh_T ∨ ∃ host : String, Cond.fieldLinkNest own index (r.2.1 k).1 (r.2.1 k).2.1 (r.2.1 k).2.2.1 host ∈ gh_nw)
theorem gh_R.at {H : Heap} (h : gh_R d g H) {k : gh_K} {a : Nat} {x : gh_E} (hk : g k = some (a, x)) : va_P d.1 gh_cl [(a, gh_e d x)] H := fun i q hi => by
  have : i < 1 := (List.getElem?_eq_some_iff.mp hi).1
  rw [show i = 0 by omega] at hi
  cases hi
  exact (h.2.2.1 k a x hk).1
/-- a cell is written: the rest stays -/
theorem gh_R.put {H H1 : Heap} (h : gh_R d g H) {k : gh_K} {a : Nat} {x x1 : gh_E} (hk : g k = some (a, x)) (hz : H1.size = H.size) (ho : ∀ q : Nat, q ≠ a → H1[q]? = H[q]?) (hn : va_at d.1 gh_cl (a, gh_e d x1) H1) : gh_R d (gh_u g k (a, x1)) H1 := by
  obtain ⟨h1, h2, h3, h4⟩ := h
  have hla := (h3 k a x hk).2
  refine ⟨by omega, fun q hq => (ho q (by omega)).trans (h2 q hq), fun k2 b y hy => ?_, fun k1 k2 b y1 y2 e1 e2 => ?_⟩
  · by_cases he : k2 = k
    · subst he
      rw [gh_us] at hy
      cases hy
      exact ⟨hn, hla⟩
    · rw [gh_un he] at hy
      have hb : b ≠ a := fun e => he (h4 k2 k b y x hy (by rw [e]; exact hk))
      exact ⟨(h3 k2 b y hy).1.kept (ho b hb), (h3 k2 b y hy).2⟩
  · by_cases he1 : k1 = k
    · by_cases he2 : k2 = k
      · rw [he1, he2]
      · rw [he1, gh_us] at e1
        rw [gh_un he2] at e2
        cases e1
        exact (he2 (h4 k2 k a y2 x e2 hk)).elim
    · rw [gh_un he1] at e1
      by_cases he2 : k2 = k
      · rw [he2, gh_us] at e2
        cases e2
        exact (he1 (h4 k1 k a y1 x e1 hk)).elim
      · rw [gh_un he2] at e2
        exact h4 k1 k2 b y1 y2 e1 e2
/-- a new cell -/
theorem gh_R.push {H H1 : Heap} (h : gh_R d g H) {k : gh_K} {x1 : gh_E} (hz : H1.size = H.size + 1) (ho : ∀ q : Nat, q < H.size → H1[q]? = H[q]?) (hn : va_at d.1 gh_cl (H.size, gh_e d x1) H1) : gh_R d (gh_u g k (H.size, x1)) H1 := by
  obtain ⟨h1, h2, h3, h4⟩ := h
  have hlt : ∀ (k2 : gh_K) (b : Nat) (y : gh_E), g k2 = some (b, y) → b < H.size := fun k2 b y hy => (h3 k2 b y hy).1.lt
  refine ⟨by omega, fun q hq => (ho q (by omega)).trans (h2 q hq), fun k2 b y hy => ?_, fun k1 k2 b y1 y2 e1 e2 => ?_⟩
  · by_cases he : k2 = k
    · subst he
      rw [gh_us] at hy
      cases hy
      exact ⟨hn, h1⟩
    · rw [gh_un he] at hy
      exact ⟨(h3 k2 b y hy).1.kept (ho b (hlt k2 b y hy)), (h3 k2 b y hy).2⟩
  · by_cases he1 : k1 = k
    · by_cases he2 : k2 = k
      · rw [he1, he2]
      · rw [he1, gh_us] at e1
        rw [gh_un he2] at e2
        cases e1
        exact absurd (hlt k2 _ y2 e2) (Nat.lt_irrefl _)
    · rw [gh_un he1] at e1
      by_cases he2 : k2 = k
      · rw [he2, gh_us] at e2
        cases e2
        exact absurd (hlt k1 _ y1 e1) (Nat.lt_irrefl _)
      · rw [gh_un he2] at e2
        exact h4 k1 k2 b y1 y2 e1 e2
theorem gh_lo {locs : List Loc} {lo a i : Nat} (h : ∀ q ∈ locs, lo ≤ q.base) (ha : lo ≤ a) : ∀ q ∈ locs ++ [(⟨a, i⟩ : Loc)], lo ≤ q.base := fun q hq => by
  rcases List.mem_append.mp hq with h1 | h1
  · exact h q h1
  · rw [List.mem_singleton] at h1
    subst h1
    exact ha
theorem gh_get (C : gh_X d z mm rm) {index ci k a : Nat} {K : gh_K} {fs : List Value} {v : Value} (hF : gh_F mm.1.cls index ci k) (hg : g K = some (a, .inr (ci, fs))) (hv : fs[k]? = some v) (hd : decode mm.2.1 pc = .ok (.getfield index, 3)) (kk : gh_W l d z (pc + 3) ls (v :: rest) g cb sb) : gh_W l d z pc ls (.ref a :: rest) g cb sb := by
  obtain ⟨p, e, R, s, m, args, below, meth, c, nL, Q⟩ := z
  obtain ⟨⟨hx, hb, hml, hown, hts⟩, hr, hlk, hK, hR, hnm⟩ := C
  obtain ⟨⟨C1, T, N⟩, hc, hk, hin, hl⟩ := hF
  intro H locs la ce sl hG hlo hL i j
  rcases hl with hl | ⟨host, hl⟩
  · exact va_get hx hb hts hin hown hK.1 (hG.at hg) 0 rfl hc k hk (hts _ hl) (fun _ h9 => h9) hv hd (kk H locs la ce sl hG hlo hL i j)
  · exact va_getN hx hb hts hin hown hK.1 (hG.at hg) 0 rfl hc k hk (va_Nw.use rfl (hK.2.2 _ hl)) (fun _ h9 => h9) hv hd (kk H locs la ce sl hG hlo hL i j)
/-- a field that an instruction writes: of class ci, slot k, of this type; final or not -/
def gh_FP (own : String) (index ci k : Nat) (ty : FieldType) (fin : Bool) : Prop := ∃ (r : vw_C) (ty0 : Nat → FieldType), gh_cl[ci]? = some r ∧ k < r.2.2 ∧ (∀ w ∈ u_ws r.1 r.2.1 r.2.2, w ∈ gh_T) ∧ (∀ j, j < r.2.2 → parseFieldDescriptor (r.2.1 j).2.2.1 = some (ty0 j)) ∧ (∀ a, a < r.2.2 → ∀ b, b < r.2.2 → a ≠ b → (r.2.1 a).2.1 ≠ (r.2.1 b).2.1) ∧ parseFieldDescriptor (r.2.1 k).2.2.1 = some ty ∧ (r.2.1 k).2.2.2 = fin ∧
  (Cond.fieldLink own index (r.2.1 k).1 (r.2.1 k).2.1 (r.2.1 k).2.2.1 ∈ gh_T ∧ (fin = true → (r.2.1 k).1 = own) ∨ fin = false ∧ ∃ host : String, Cond.fieldLinkNest own index (r.2.1 k).1 (r.2.1 k).2.1 (r.2.1 k).2.2.1 host ∈ gh_nw)
theorem gh_put (C : gh_X d z mm rm) {index ci k a : Nat} {ty : FieldType} {fin : Bool} {K : gh_K} {fs : List Value} {v : Value} (hF : gh_FP mm.1.cls index ci k ty fin) (hfi : fin = true → mm.1.name = "<init>") (hg : g K = some (a, .inr (ci, fs))) (hv : k < fs.length) (hn : narrow ty v = v) (hft : fits ty v = true) (hd : decode mm.2.1 pc = .ok (.putfield index, 3)) (kk : gh_W l d z (pc + 3) ls rest (gh_u g K (a, .inr (ci, fs.set k v))) cb sb) : gh_W l d z pc ls (v :: .ref a :: rest) g cb sb := by
  obtain ⟨p, e, R, s, m, args, below, meth, c, nL, Q⟩ := z
  obtain ⟨⟨hx, hb, hml, hown, hts⟩, hr, hlk, hK, hR, hnm⟩ := C
  obtain ⟨⟨C1, T, N⟩, ty0, hc, hk, hin, hty, hnn, hpd, hfin, hl⟩ := hF
  intro H locs la ce sl hG hlo hL i j
  have hap := va_apart (own := mm.1.cls) hts hin ty0 hty hnn hK.1 hc
  have hat := hG.2.2.1 K a _ hg
  obtain ⟨⟨r, h1, cell, q1, q2, q3, q4⟩, hla⟩ := hat
  have hr : r = (C1, T, N) := Option.some.inj (h1.symm.trans hc)
  subst hr
  obtain ⟨hS, hfc, kC, hkC, hkind⟩ := hK.1.1 ci _ hc
  obtain ⟨cf, kf, fi, f, hi, hsl⟩ := hS k hk
  have hst := (u_facts hfc hkC (u_lays hts hin hk) hi).1
  have fin9 : ∀ (H1 : Heap), H1[a]? = some (cell.setSlot f.slot v) → H1.size = H.size → (∀ q : Nat, q ≠ a → H1[q]? = H[q]?) → W p l e R s m args below meth c H1 (locs ++ [⟨a, f.slot⟩]) ce sl Q (F0 m (pc + 3) la rest) := by
    intro H1 e1 e2 e3
    rw [hsl] at e1 ⊢
    exact kk H1 _ la ce sl (hG.put hg e2 e3 ⟨_, hc, t_OB.to (V := updV (vp_V fs) k v) ⟨_, e1, q2, q3, t_set q4 hap hk v⟩ (fun j _ => vp_updV_set hv v j)⟩) (gh_lo hlo hla) hL i j
  have hlay := hts _ (hin _ (u_in_lay hk))
  unfold u_lay at hlay
  cases fin with
  | false =>
    rw [if_neg (by rw [hfin]; decide)] at hlay
    have h6 := u_store hfc hkC hkind hlay hi hpd hn hft
    rcases hl with ⟨hl, -⟩ | ⟨-, host, hl⟩
    · exact W.putK hx hb (f := f) ⟨hown, hts _ hl, ⟨_, _, _, hi⟩, hst⟩ (by rw [q2]; exact h6) q1 q3 (by rw [hsl]; exact k2_hasslot (q4 k hk)) rfl rfl hd fin9
    · exact va_WputK hx hb (f := f) hown (va_Nw.use rfl (hK.2.2 _ hl)) hi hst (by rw [q2]; exact h6) q1 q3 (by rw [hsl]; exact k2_hasslot (q4 k hk)) rfl rfl hd fin9
  | true =>
    rw [if_pos hfin] at hlay
    rcases hl with ⟨hl, hdecl⟩ | ⟨hl, -⟩
    · have hcf : m.cls = cf := by
        obtain ⟨_, _, c', _, _, _, -, -, hf', -, -, -, hown2, -⟩ := Cond.laysFinal_spec hlay
        have e1 : c' = cf := by have := hi.symm.trans hf'; simp at this; exact this.1.symm
        rw [hdecl rfl] at hown2
        rw [← e1]; exact Option.some.inj (hown.symm.trans hown2)
      have h6 := u_fits hfc hkC hkind (Or.inr hlay) hi hpd hn hft
      exact W.putFinK hx hb hown (hts _ hl) hi hst hcf (hnm.trans (hfi rfl)) (by rw [q2]; exact h6) q1 q3 (by rw [hsl]; exact k2_hasslot (q4 k hk)) rfl rfl hd fin9
    · cases hl
theorem gh_iald (C : gh_X d z mm rm) {t a n : Nat} {K : gh_K} {f : Nat → Int32} {i : Int32} (hg : g K = some (a, .inl (t, n, .inl f))) (ht : gh_ty[t]? = some .int) (hin : vp_in i n) (hd : decode mm.2.1 pc = .ok (.iaload, 1)) (kk : gh_W l d z (pc + 1) ls (.int (f i.toNatClampNeg) :: rest) g cb sb) : gh_W l d z pc ls (.int i :: .ref a :: rest) g cb sb := by
  obtain ⟨p, e, R, s, m, args, below, meth, c, nL, Q⟩ := z
  obtain ⟨⟨hx, hb, hml, hown, hts⟩, hr, hlk, hK, hR, hnm⟩ := C
  have hK1 : va_K d.1 gh_cl [(d.2.1 t, .int)] s := ⟨hK.1.1, fun k q hq => by
    have : k < 1 := (List.getElem?_eq_some_iff.mp hq).1
    rw [show k = 0 by omega] at hq
    cases hq
    exact hK.2.1 t _ ht⟩
  exact fun H locs la ce sl hG hlo hL i j => va_iald hx hb hK1 (hG.at hg) 0 0 rfl rfl hin hd (kk H locs la ce sl hG hlo hL i j)
theorem gh_bald (C : gh_X d z mm rm) {t a n : Nat} {K : gh_K} {f : Nat → Int32} {i : Int32} (hg : g K = some (a, .inl (t, n, .inl f))) (ht : gh_ty[t]? = some .byte) (hin : vp_in i n) (hd : decode mm.2.1 pc = .ok (.baload, 1)) (kk : gh_W l d z (pc + 1) ls (.int (f i.toNatClampNeg) :: rest) g cb sb) : gh_W l d z pc ls (.int i :: .ref a :: rest) g cb sb := by
  obtain ⟨p, e, R, s, m, args, below, meth, c, nL, Q⟩ := z
  obtain ⟨⟨hx, hb, hml, hown, hts⟩, hr, hlk, hK, hR, hnm⟩ := C
  have hK1 : va_K d.1 gh_cl [(d.2.1 t, .byte)] s := ⟨hK.1.1, fun k q hq => by
    have : k < 1 := (List.getElem?_eq_some_iff.mp hq).1
    rw [show k = 0 by omega] at hq
    cases hq
    exact hK.2.1 t _ ht⟩
  exact fun H locs la ce sl hG hlo hL i j => va_bald hx hb hK1 (hG.at hg) 0 0 rfl rfl hin hd (kk H locs la ce sl hG hlo hL i j)
theorem gh_zald (C : gh_X d z mm rm) {t a n : Nat} {K : gh_K} {f : Nat → Int32} {i : Int32} (hg : g K = some (a, .inl (t, n, .inl f))) (ht : gh_ty[t]? = some .boolean) (hin : vp_in i n) (hd : decode mm.2.1 pc = .ok (.baload, 1)) (kk : gh_W l d z (pc + 1) ls (.int (f i.toNatClampNeg) :: rest) g cb sb) : gh_W l d z pc ls (.int i :: .ref a :: rest) g cb sb := by
  obtain ⟨p, e, R, s, m, args, below, meth, c, nL, Q⟩ := z
  obtain ⟨⟨hx, hb, hml, hown, hts⟩, hr, hlk, hK, hR, hnm⟩ := C
  have hK1 : va_K d.1 gh_cl [(d.2.1 t, .boolean)] s := ⟨hK.1.1, fun k q hq => by
    have : k < 1 := (List.getElem?_eq_some_iff.mp hq).1
    rw [show k = 0 by omega] at hq
    cases hq
    exact hK.2.1 t _ ht⟩
  exact fun H locs la ce sl hG hlo hL i j => va_zald hx hb hK1 (hG.at hg) 0 0 rfl rfl hin hd (kk H locs la ce sl hG hlo hL i j)
theorem gh_lald (C : gh_X d z mm rm) {t a n : Nat} {K : gh_K} {f : Nat → Int64} {i : Int32} (hg : g K = some (a, .inl (t, n, .inr (.inl f)))) (ht : gh_ty[t]? = some .long) (hin : vp_in i n) (hd : decode mm.2.1 pc = .ok (.laload, 1)) (kk : gh_W l d z (pc + 1) ls (.long (f i.toNatClampNeg) :: rest) g cb sb) : gh_W l d z pc ls (.int i :: .ref a :: rest) g cb sb := by
  obtain ⟨p, e, R, s, m, args, below, meth, c, nL, Q⟩ := z
  obtain ⟨⟨hx, hb, hml, hown, hts⟩, hr, hlk, hK, hR, hnm⟩ := C
  have hK1 : va_K d.1 gh_cl [(d.2.1 t, .long)] s := ⟨hK.1.1, fun k q hq => by
    have : k < 1 := (List.getElem?_eq_some_iff.mp hq).1
    rw [show k = 0 by omega] at hq
    cases hq
    exact hK.2.1 t _ ht⟩
  exact fun H locs la ce sl hG hlo hL i j => va_lald hx hb hK1 (hG.at hg) 0 0 rfl rfl hin hd (kk H locs la ce sl hG hlo hL i j)
theorem gh_aald (C : gh_X d z mm rm) {t a n : Nat} {C1 : String} {K : gh_K} {f : Nat → Option Nat} {i : Int32} (hg : g K = some (a, .inl (t, n, .inr (.inr (.inr (.inr f)))))) (ht : gh_ty[t]? = some (.object C1)) (hin : vp_in i n) (hd : decode mm.2.1 pc = .ok (.aaload, 1)) (kk : gh_W l d z (pc + 1) ls (va_rf (f i.toNatClampNeg) :: rest) g cb sb) : gh_W l d z pc ls (.int i :: .ref a :: rest) g cb sb := by
  obtain ⟨p, e, R, s, m, args, below, meth, c, nL, Q⟩ := z
  obtain ⟨⟨hx, hb, hml, hown, hts⟩, hr, hlk, hK, hR, hnm⟩ := C
  have hK1 : va_K d.1 gh_cl [(d.2.1 t, .object C1)] s := ⟨hK.1.1, fun k q hq => by
    have : k < 1 := (List.getElem?_eq_some_iff.mp hq).1
    rw [show k = 0 by omega] at hq
    cases hq
    exact hK.2.1 t _ ht⟩
  exact fun H locs la ce sl hG hlo hL i j => va_aldq hx hb hK1 (hG.at hg) 0 0 rfl rfl hin hd (kk H locs la ce sl hG hlo hL i j)
theorem gh_alen (C : gh_X d z mm rm) {t a : Nat} {K : gh_K} {q : vp_A} {ty : FieldType} (hg : g K = some (a, .inl (t, q))) (ht : gh_ty[t]? = some ty) (hd : decode mm.2.1 pc = .ok (.arraylength, 1)) (kk : gh_W l d z (pc + 1) ls (.int (nI q.1) :: rest) g cb sb) : gh_W l d z pc ls (.ref a :: rest) g cb sb := by
  obtain ⟨p, e, R, s, m, args, below, meth, c, nL, Q⟩ := z
  obtain ⟨⟨hx, hb, hml, hown, hts⟩, hr, hlk, hK, hR, hnm⟩ := C
  have hK1 : va_K d.1 gh_cl [(d.2.1 t, ty)] s := ⟨hK.1.1, fun k q hq => by
    have : k < 1 := (List.getElem?_eq_some_iff.mp hq).1
    rw [show k = 0 by omega] at hq
    cases hq
    exact hK.2.1 t _ ht⟩
  exact fun H locs la ce sl hG hlo hL i j => va_alen hx hb hK1 (hG.at hg) 0 0 rfl rfl rfl hd (kk H locs la ce sl hG hlo hL i j)
theorem gh_iast (C : gh_X d z mm rm) {t a n : Nat} {K : gh_K} {f : Nat → Int32} {i : Int32} {x : Int32} (hg : g K = some (a, .inl (t, n, .inl f))) (ht : gh_ty[t]? = some .int) (hin : vp_in i n) (hd : decode mm.2.1 pc = .ok (.iastore, 1)) (kk : gh_W l d z (pc + 1) ls rest (gh_u g K (a, .inl (t, n, .inl (upd f i.toNatClampNeg x)))) cb sb) : gh_W l d z pc ls (.int x :: .int i :: .ref a :: rest) g cb sb := by
  obtain ⟨p, e, R, s, m, args, below, meth, c, nL, Q⟩ := z
  obtain ⟨⟨hx, hb, hml, hown, hts⟩, hr, hlk, hK, hR, hnm⟩ := C
  intro H locs la ce sl hG hlo hL i9 j9
  obtain ⟨hat, hla⟩ := hG.2.2.1 K a _ hg
  refine W.iast hx hb hat ((hK.2.1 t _ ht).1 n (fun j => .int (f j))) (fun q => by cases q) (by show ¬ (i < 0 ∨ (arrV _ _ _).slots.size ≤ _); rw [arrV_size]; exact hin) rfl rfl hd fun H1 e1 e2 e3 => ?_
  refine kk H1 _ la ce sl (hG.put hg e2 e3 ?_) (gh_lo hlo hla) hL i9 j9
  have e1 : H1[a]? = some ((vp_cell (d.2.1 t) (n, .inl f)).setSlot i.toNatClampNeg (.int x)) := e1
  show H1[a]? = some (vp_cell (d.2.1 t) (n, .inl (upd f i.toNatClampNeg x)))
  rw [e1]
  rw [vp_cell_i, vp_cell_i, arrV_store]
  congr 2
  funext q
  by_cases hq : q = i.toNatClampNeg
  · subst hq
    simp [updV, upd]
  · simp [updV, upd, hq]
theorem gh_bast (C : gh_X d z mm rm) {t a n : Nat} {K : gh_K} {f : Nat → Int32} {i : Int32} {x : Int32} (hg : g K = some (a, .inl (t, n, .inl f))) (ht : gh_ty[t]? = some .byte) (hin : vp_in i n) (hd : decode mm.2.1 pc = .ok (.bastore, 1)) (kk : gh_W l d z (pc + 1) ls rest (gh_u g K (a, .inl (t, n, .inl (upd f i.toNatClampNeg (vp_nar .byte x))))) cb sb) : gh_W l d z pc ls (.int x :: .int i :: .ref a :: rest) g cb sb := by
  obtain ⟨p, e, R, s, m, args, below, meth, c, nL, Q⟩ := z
  obtain ⟨⟨hx, hb, hml, hown, hts⟩, hr, hlk, hK, hR, hnm⟩ := C
  intro H locs la ce sl hG hlo hL i9 j9
  obtain ⟨hat, hla⟩ := hG.2.2.1 K a _ hg
  refine W.bast hx hb hat ((hK.2.1 t _ ht).1 n (fun j => .int (f j))) (fun q => by cases q) (by show ¬ (i < 0 ∨ (arrV _ _ _).slots.size ≤ _); rw [arrV_size]; exact hin) rfl rfl hd fun H1 e1 e2 e3 => ?_
  refine kk H1 _ la ce sl (hG.put hg e2 e3 ?_) (gh_lo hlo hla) hL i9 j9
  have e1 : H1[a]? = some ((vp_cell (d.2.1 t) (n, .inl f)).setSlot i.toNatClampNeg (narrow .byte (.int x))) := e1
  show H1[a]? = some (vp_cell (d.2.1 t) (n, .inl (upd f i.toNatClampNeg (vp_nar .byte x))))
  rw [e1]
  rw [vp_cell_i, vp_cell_i, arrV_store]
  congr 2
  funext q
  by_cases hq : q = i.toNatClampNeg
  · subst hq
    simp [updV, upd, vp_nar]
    try rfl
  · simp [updV, upd, vp_nar, hq]
theorem gh_zast (C : gh_X d z mm rm) {t a n : Nat} {K : gh_K} {f : Nat → Int32} {i : Int32} {x : Int32} (hg : g K = some (a, .inl (t, n, .inl f))) (ht : gh_ty[t]? = some .boolean) (hin : vp_in i n) (hd : decode mm.2.1 pc = .ok (.bastore, 1)) (kk : gh_W l d z (pc + 1) ls rest (gh_u g K (a, .inl (t, n, .inl (upd f i.toNatClampNeg (vp_nar .boolean x))))) cb sb) : gh_W l d z pc ls (.int x :: .int i :: .ref a :: rest) g cb sb := by
  obtain ⟨p, e, R, s, m, args, below, meth, c, nL, Q⟩ := z
  obtain ⟨⟨hx, hb, hml, hown, hts⟩, hr, hlk, hK, hR, hnm⟩ := C
  intro H locs la ce sl hG hlo hL i9 j9
  obtain ⟨hat, hla⟩ := hG.2.2.1 K a _ hg
  refine W.zast hx hb hat ((hK.2.1 t _ ht).1 n (fun j => .int (f j))) (fun q => by cases q) (by show ¬ (i < 0 ∨ (arrV _ _ _).slots.size ≤ _); rw [arrV_size]; exact hin) rfl rfl hd fun H1 e1 e2 e3 => ?_
  refine kk H1 _ la ce sl (hG.put hg e2 e3 ?_) (gh_lo hlo hla) hL i9 j9
  have e1 : H1[a]? = some ((vp_cell (d.2.1 t) (n, .inl f)).setSlot i.toNatClampNeg (narrow .boolean (.int x))) := e1
  show H1[a]? = some (vp_cell (d.2.1 t) (n, .inl (upd f i.toNatClampNeg (vp_nar .boolean x))))
  rw [e1]
  rw [vp_cell_i, vp_cell_i, arrV_store]
  congr 2
  funext q
  by_cases hq : q = i.toNatClampNeg
  · subst hq
    simp [updV, upd, vp_nar]
    try rfl
  · simp [updV, upd, vp_nar, hq]
theorem gh_last (C : gh_X d z mm rm) {t a n : Nat} {K : gh_K} {f : Nat → Int64} {i : Int32} {x : Int64} (hg : g K = some (a, .inl (t, n, .inr (.inl f)))) (ht : gh_ty[t]? = some .long) (hin : vp_in i n) (hd : decode mm.2.1 pc = .ok (.lastore, 1)) (kk : gh_W l d z (pc + 1) ls rest (gh_u g K (a, .inl (t, n, .inr (.inl (vp_updL f i.toNatClampNeg x))))) cb sb) : gh_W l d z pc ls (.long x :: .int i :: .ref a :: rest) g cb sb := by
  obtain ⟨p, e, R, s, m, args, below, meth, c, nL, Q⟩ := z
  obtain ⟨⟨hx, hb, hml, hown, hts⟩, hr, hlk, hK, hR, hnm⟩ := C
  intro H locs la ce sl hG hlo hL i9 j9
  obtain ⟨hat, hla⟩ := hG.2.2.1 K a _ hg
  refine W.last hx hb hat ((hK.2.1 t _ ht).1 n (fun j => .long (f j))) (fun q => by cases q) (by show ¬ (i < 0 ∨ (arrV _ _ _).slots.size ≤ _); rw [arrV_size]; exact hin) rfl rfl hd fun H1 e1 e2 e3 => ?_
  refine kk H1 _ la ce sl (hG.put hg e2 e3 ?_) (gh_lo hlo hla) hL i9 j9
  have e1 : H1[a]? = some ((vp_cell (d.2.1 t) (n, .inr (.inl f))).setSlot i.toNatClampNeg (.long x)) := e1
  show H1[a]? = some (vp_cell (d.2.1 t) (n, .inr (.inl (vp_updL f i.toNatClampNeg x))))
  rw [e1]
  rw [vp_cell_l, vp_cell_l, arrV_store]
  congr 2
  funext q
  by_cases hq : q = i.toNatClampNeg
  · subst hq
    simp [updV, vp_updL]
    try rfl
  · simp [updV, vp_updL, hq]
theorem gh_aast (C : gh_X d z mm rm) {t a n ci v : Nat} {K Kv : gh_K} {r : vw_C} {fs : List Value} {f : Nat → Option Nat} {i : Int32} (hg : g K = some (a, .inl (t, n, .inr (.inr (.inr (.inr f)))))) (ht : gh_ty[t]? = some (.object r.1)) (hgv : g Kv = some (v, .inr (ci, fs))) (hc : gh_cl[ci]? = some r) (hin : vp_in i n) (hd : decode mm.2.1 pc = .ok (.aastore, 1)) (kk : gh_W l d z (pc + 1) ls rest (gh_u g K (a, .inl (t, n, .inr (.inr (.inr (.inr (va_up f i.toNatClampNeg (some v)))))))) cb sb) : gh_W l d z pc ls (.ref v :: .int i :: .ref a :: rest) g cb sb := by
  obtain ⟨p, e, R, s, m, args, below, meth, c, nL, Q⟩ := z
  obtain ⟨⟨hx, hb, hml, hown, hts⟩, hr, hlk, hK, hR, hnm⟩ := C
  intro H locs la ce sl hG hlo hL i9 j9
  obtain ⟨hat, hla⟩ := hG.2.2.1 K a _ hg
  obtain ⟨⟨r', hr', cellV, g1, g2, g3, -⟩, -⟩ := hG.2.2.1 Kv v _ hgv
  have hlt : i.toNatClampNeg < n := Nat.not_le.mp fun q => hin (Or.inr q)
  have h0 : ¬ i < 0 := fun q => hin (Or.inl q)
  have hcls := (hK.1.1 ci r hc).2
  obtain ⟨kA, comp, k1, k2, k3, -⟩ := (hK.2.1 t _ ht).2
  have hcomp : comp = d.1.1 ci := Option.some.inj (k3.symm.trans hcls.1)
  subst hcomp
  obtain ⟨kC, hkC, -⟩ := id hcls.2
  refine W.aast hx hb hat (fun q h => by cases h) (fun h => by cases h) k1 k2 rfl hkC ⟨h0, by show _ < (arrV _ _ _).slots.size; rw [arrV_size]; exact hlt⟩ g1 (fun q h => by rw [g3] at h; cases h) (by rw [g2]; exact hkC) (by rw [g2]; exact va_assign hcls) rfl rfl hd fun H1 e1 e2 e3 => ?_
  refine kk H1 _ la ce sl (hG.put hg e2 e3 ?_) (gh_lo hlo hla) hL i9 j9
  have e1 : H1[a]? = some ((vp_cell (d.2.1 t) (n, .inr (.inr (.inr (.inr f))))).setSlot i.toNatClampNeg (.ref v)) := e1
  show H1[a]? = some (vp_cell (d.2.1 t) (n, .inr (.inr (.inr (.inr (va_up f i.toNatClampNeg (some v)))))))
  rw [e1]
  rw [vp_cell_q, vp_cell_q, arrV_store]
  congr 2
  funext q
  by_cases hq : q = i.toNatClampNeg
  · subst hq
    simp [updV, va_up, va_rf]
    try rfl
  · simp [updV, va_up, va_rf, hq]
/-- a class that an instruction at 'index' of class own makes: number ci, n fields, blank they are fs -/
def gh_N (own : String) (index ci n : Nat) (fs : List Value) : Prop := ∃ (r : vw_C) (ty : Nat → FieldType), gh_cl[ci]? = some r ∧ r.2.2 = n ∧ (∀ w ∈ u_ws r.1 r.2.1 r.2.2, w ∈ gh_T) ∧ (∀ k, k < r.2.2 → parseFieldDescriptor (r.2.1 k).2.2.1 = some (ty k)) ∧ Cond.classLink own index r.1 ∈ gh_T ∧ Cond.instantiable r.1 n ∈ gh_T ∧ Cond.initialized r.1 ∈ gh_T ∧ ∀ j, j < n → defaultValue (ty j) = vp_V fs j
theorem gh_new (C : gh_X d z mm rm) {index ci n : Nat} {fs : List Value} (K : gh_K) (hN : gh_N mm.1.cls index ci n fs) (cb1 sb1 : Nat) (h1 : cb1 + 1 ≤ cb) (h2 : sb1 + n ≤ sb) (hd : decode mm.2.1 pc = .ok (.new index, 3)) (kk : ∀ a : Nat, (∀ (k : gh_K) (b : Nat) (x : gh_E), g k = some (b, x) → b ≠ a) → gh_W l d z (pc + 3) ls (.ref a :: rest) (gh_u g K (a, .inr (ci, fs))) cb1 sb1) : gh_W l d z pc ls rest g cb sb := by
  obtain ⟨p, e, R, s, m, args, below, meth, c, nL, Q⟩ := z
  obtain ⟨⟨hx, hb, hml, hown, hts⟩, hr, hlk, hK, hR, hnm⟩ := C
  obtain ⟨⟨C1, T, N⟩, ty, hc, hn, hin, hty, w1, w2, w3, hfs⟩ := hN
  have hn : N = n := hn
  subst hn
  intro H locs la ce sl hG hlo hL i9 j9
  have hKn := hK.1.1 ci _ hc
  refine W.newcK hx hb hown (hts _ w1) (hts _ w2) (hts _ w3) rfl hd (by omega) (by omega) hKn.2.1 rfl fun H1 kC hkC e1 z1 o1 => ?_
  refine kk H.size (fun k b x hk => Nat.ne_of_lt (hG.2.2.1 k b x hk).1.lt) H1 locs la (ce + 1) (sl + N) (hG.push z1 o1 ?_) hlo hL (by omega) (by omega)
  exact ⟨_, hc, (u_born ty hts hin hKn hkC e1 hty).to hfs⟩
theorem gh_newa (C : gh_X d z mm rm) {atype : ArrayType} {t : Nat} {ty : FieldType} {n : Int32} {N : Nat} {q0 : vp_A} (K : gh_K) (ht : gh_ty[t]? = some ty) (hty : newarray.typeOf atype = ty) (hw : Cond.arrayClass ty ∈ gh_T) (hp : ∀ C1 : String, ty ≠ .object C1) (ha : ∀ cA : ClassId, vp_cell cA q0 = arrV cA N (fun _ => defaultValue ty)) (hn : ¬ n < 0) (hN : n.toNatClampNeg = N) (hbytes : N * componentBytes ty ≤ 536870912) (cb1 sb1 : Nat) (h1 : cb1 + 1 ≤ cb) (h2 : sb1 + N ≤ sb) (hd : decode mm.2.1 pc = .ok (.newarray atype, 2)) (kk : ∀ a : Nat, (∀ (k : gh_K) (b : Nat) (x : gh_E), g k = some (b, x) → b ≠ a) → gh_W l d z (pc + 2) ls (.ref a :: rest) (gh_u g K (a, .inl (t, q0))) cb1 sb1) : gh_W l d z pc ls (.int n :: rest) g cb sb := by
  obtain ⟨p, e, R, s, m, args, below, meth, c, nL, Q⟩ := z
  obtain ⟨⟨hx, hb, hml, hown, hts⟩, hr, hlk, hK, hR, hnm⟩ := C
  subst hty
  intro H locs la ce sl hG hlo hL i9 j9
  refine va_newaK hx hb (hts _ hw) rfl hd rfl hn hN hbytes (by omega) (by omega) rfl fun H1 cA e1 z1 o1 hAr hNm => ?_
  refine kk H.size (fun k b x hk => Nat.ne_of_lt (hG.2.2.1 k b x hk).1.lt) H1 locs la (ce + 1) (sl + N) (hG.push z1 o1 ?_) hlo hL (by omega) (by omega)
  show H1[H.size]? = some (vp_cell _ _)
  have hcA : d.2.1 t = cA := by
    have h9 := (hK.2.1 t _ ht).2
    have h8 : s.vm.findClass ("[" ++ (newarray.typeOf atype).toString) = some (d.2.1 t) := by
      generalize newarray.typeOf atype = ty at h9 hp
      cases ty with
      | object C1 => exact absurd rfl (hp C1)
      | _ => exact h9
    exact Option.some.inj (h8.symm.trans hNm)
  rw [ha, hcA]
  exact e1
theorem gh_anew (C : gh_X d z mm rm) {index t : Nat} {C1 : String} {n : Int32} {N : Nat} (K : gh_K) (ht : gh_ty[t]? = some (.object C1)) (w1 : Cond.classLink mm.1.cls index C1 ∈ gh_T) (w2 : Cond.arrayOver (.object C1) ∈ gh_nw) (hn : ¬ n < 0) (hN : n.toNatClampNeg = N) (hbytes : N * 4 ≤ 536870912) (cb1 sb1 : Nat) (h1 : cb1 + 1 ≤ cb) (h2 : sb1 + N ≤ sb) (hd : decode mm.2.1 pc = .ok (.anewarray index, 3)) (kk : ∀ a : Nat, (∀ (k : gh_K) (b : Nat) (x : gh_E), g k = some (b, x) → b ≠ a) → gh_W l d z (pc + 3) ls (.ref a :: rest) (gh_u g K (a, .inl (t, N, .inr (.inr (.inr (.inr (fun _ => none))))))) cb1 sb1) : gh_W l d z pc ls (.int n :: rest) g cb sb := by
  obtain ⟨p, e, R, s, m, args, below, meth, c, nL, Q⟩ := z
  obtain ⟨⟨hx, hb, hml, hown, hts⟩, hr, hlk, hK, hR, hnm⟩ := C
  subst hN
  intro H locs la ce sl hG hlo hL i9 j9
  refine W.anew hx hb hown (hts _ w1) (va_AO.use (hK.2.2 _ w2)) rfl hd rfl hn hbytes (by omega) (by omega) fun cA kA comp f1 f2 f3 f4 => ?_
  generalize hH1 : H.push ({ cls := cA, slots := Array.replicate n.toNatClampNeg .null, vm := .none } : Cell) = H1
  have z1 : H1.size = H.size + 1 := by rw [← hH1, Array.size_push]
  have e1 : H1[H.size]? = some (arrV cA n.toNatClampNeg (fun _ => .null)) := by rw [← hH1, Array.getElem?_push_size, ← arrV_new]
  have o1 : ∀ q : Nat, q < H.size → H1[q]? = H[q]? := fun q hq => by rw [← hH1, Array.getElem?_push, if_neg (Nat.ne_of_lt hq)]
  refine kk H.size (fun k b x hk => Nat.ne_of_lt (hG.2.2.1 k b x hk).1.lt) H1 locs la (ce + 1) (sl + n.toNatClampNeg) (hG.push z1 o1 ?_) hlo hL (by omega) (by omega)
  show H1[H.size]? = some (vp_cell _ _)
  obtain ⟨kA2, comp2, k1, k2, k3, k4⟩ := (hK.2.1 t _ ht).2
  have hcA : d.2.1 t = cA := Option.some.inj (k4.symm.trans f1)
  rw [vp_cell_q, hcA]
  exact e1
/-- the words of a call at 'index' of class own -/
def gh_ML (own : String) (index : Nat) (y : MethodName) : Prop := Cond.methodLink own index y ∈ gh_T ∨ ∃ host : String, Cond.methodLinkNest own index y host ∈ gh_nw
def gh_MW (mm : gh_M) (n : Nat) : Prop := Cond.code mm.1 mm.2.1 mm.2.2.1 mm.2.2.2 ∈ gh_T ∧ Cond.initialized mm.1.cls ∈ gh_T ∧ mm.1.cls ≠ "java/lang/invoke/MethodHandle" ∧ mm.1.cls ≠ "java/lang/invoke/VarHandle" ∧ (parseMethodDescriptor mm.1.desc).map (fun d => d.parameters.length) = some n
theorem gh_GI {mm : gh_M} {n : Nat} (h : gh_MW mm n) : GoodIn gh_T (.code mm.1 mm.2.1 mm.2.2.1 mm.2.2.2 :: gh_T) := fun w hw => by
  rcases List.mem_cons.mp hw with rfl | h1
  · exact ⟨h.1, gh_T_good _ h.1⟩
  · exact ⟨h1, gh_T_good _ h1⟩
/-- what a call's run gives -/
theorem gh_run {rm1 : Room} {st : List Value} {Po : Option Value → gh_H → Prop} {As : Array Value} (hc : rm1.cells ≤ cb) (hs : rm1.slots ≤ sb)
    (hr : match z with | (p, e, R, s, m, args, below, meth, c, nL, _) => ∀ (H : Heap) (locs : List Loc) (la : Array Slot) (cells slots : Nat), gh_R d g H → gh_L la nL ls → cells + cb ≤ R.cells → slots + sb ≤ R.slots → va_Run p l e R s m args below meth c H locs cells slots rm1.cells rm1.slots (F0 m pc la st) rest (gh_Qc d Po As) (fun q => d.2.2.size ≤ q))
    (kk : ∀ (v : Option Value) (g1 : gh_H), Po v g1 → gh_W l d z (pc + 3) ls (v.toList ++ rest) g1 (cb - rm1.cells) (sb - rm1.slots)) : gh_W l d z pc ls st g cb sb := by
  obtain ⟨p, e, R, s, m, args, below, meth, c, nL, Q⟩ := z
  intro H locs la ce sl hG hlo hL i9 j9 T hT X
  obtain ⟨v, st₀, t, T', L, h0, X', hl2, e1, e2, ⟨v', g1, ho, hpo, hR1⟩, stp⟩ := hr H locs la ce sl hG hL i9 j9 T hT X
  cases ho
  obtain ⟨t2, a1, b1⟩ := kk v g1 hpo T'.heap (locs ++ L) la (ce + rm1.cells) (sl + rm1.slots) (by rw [e1]; exact hR1) (fun q hq => by
    rcases List.mem_append.mp hq with h | h
    · exact hlo q h
    · exact hl2 q h) hL (by omega) (by omega) T' rfl X'
  exact ⟨t2, stp t2 a1, b1⟩
theorem gh_callV (C : gh_X d z mm rm) {m1 : gh_M} {rm1 : Room} {index n a ci : Nat} {K : gh_K} {r : vw_C} {fs : List Value} (As : List Value) {st : List Value} {Po : Option Value → gh_H → Prop} (hM : gh_C l d m1 rm1 (.ref a :: As) g Po) (hl : gh_ML mm.1.cls index m1.1) (hw : gh_MW m1 n) (hi : Cond.instanceMethod m1.1 ∈ gh_T ∧ Cond.selects r.1 m1.1 m1.1 ∈ gh_T) (hg : g K = some (a, .inr (ci, fs))) (hcl : gh_cl[ci]? = some r) (hn : As.length = n) (hst : st = As.reverse ++ .ref a :: rest) (hcat : (rest.map fun v => v.category).sum ≤ 8) (hf : rm1.frames + 1 ≤ rm.frames ∧ 8 + (m1.2.2.1 + 11) + rm1.locals ≤ rm.locals) (hc : rm1.cells ≤ cb) (hs : rm1.slots ≤ sb) (hd : decode mm.2.1 pc = .ok (.invokevirtual index, 3))
    (kk : ∀ (v : Option Value) (g1 : gh_H), Po v g1 → gh_W l d z (pc + 3) ls (v.toList ++ rest) g1 (cb - rm1.cells) (sb - rm1.slots)) : gh_W l d z pc ls st g cb sb := by
  refine gh_run (rm1 := rm1) (As := (Value.ref a :: As).toArray) hc hs ?_ kk
  obtain ⟨p, e, R, s, m, args, below, meth, c, nL, Q⟩ := z
  obtain ⟨⟨hx, hb, hml, hown, hts⟩, hr, hlk, hK, hR, hnm⟩ := C
  subst hR
  intro H locs la ce sl hG hL i9 j9
  have hrecv := va_recv hK.1 (hG.at hg) hcl (q0 := 0) rfl
  have hp : PreV s H r.1 a (gh_P d (.ref a :: As) g) As := ⟨gh_P.blind, hrecv, fun U hU hW => ⟨rfl, by rw [hU]; exact hG, hK.warm hW⟩⟩
  rcases hl with hl | ⟨host, hl⟩
  · exact va_runV (n := n) ⟨hx, hb, hml, hown, hts⟩ hM ⟨callB_of n hts (gh_GI hw) rfl rfl rfl (hts _ hw.2.1) (hts _ hl) hw.2.2 hf, hts _ hi.1, hts _ hi.2⟩ hp rfl hn hL.1 hst (lv_room hcat) hd ⟨by omega, by omega⟩
  · exact va_runVN (n := n) (host := host) ⟨hx, hb, hml, hown, hts⟩ hM ⟨va_cnB n hts (gh_GI hw) rfl rfl rfl (hK.2.2 _ hl) (hts _ hw.2.1) hw.2.2 hf, hts _ hi.1, hts _ hi.2⟩ hp rfl hn hL.1 hst (lv_room hcat) hd ⟨by omega, by omega⟩
theorem gh_callS (C : gh_X d z mm rm) {m1 : gh_M} {rm1 : Room} {index n : Nat} (As : List Value) {st : List Value} {Po : Option Value → gh_H → Prop} (hM : gh_C l d m1 rm1 As g Po) (hl : gh_ML mm.1.cls index m1.1) (hw : gh_MW m1 n) (hi : Cond.static m1.1 ∈ gh_T) (hn : As.length = n) (hst : st = As.reverse ++ rest) (hcat : (rest.map fun v => v.category).sum ≤ 8) (hf : rm1.frames + 1 ≤ rm.frames ∧ 8 + (m1.2.2.1 + 11) + rm1.locals ≤ rm.locals) (hc : rm1.cells ≤ cb) (hs : rm1.slots ≤ sb) (hd : decode mm.2.1 pc = .ok (.invokestatic index, 3))
    (kk : ∀ (v : Option Value) (g1 : gh_H), Po v g1 → gh_W l d z (pc + 3) ls (v.toList ++ rest) g1 (cb - rm1.cells) (sb - rm1.slots)) : gh_W l d z pc ls st g cb sb := by
  refine gh_run (rm1 := rm1) (As := As.toArray) hc hs ?_ kk
  obtain ⟨p, e, R, s, m, args, below, meth, c, nL, Q⟩ := z
  obtain ⟨⟨hx, hb, hml, hown, hts⟩, hr, hlk, hK, hR, hnm⟩ := C
  subst hR
  intro H locs la ce sl hG hL i9 j9
  have hp : PreS s H (gh_P d As g) As := ⟨gh_P.blind, fun U hU hW => ⟨rfl, by rw [hU]; exact hG, hK.warm hW⟩⟩
  rcases hl with hl | ⟨host, hl⟩
  · exact va_runS (n := n) ⟨hx, hb, hml, hown, hts⟩ hM ⟨callB_of n hts (gh_GI hw) rfl rfl rfl (hts _ hw.2.1) (hts _ hl) hw.2.2 hf, hts _ hi⟩ hp rfl hn hL.1 hst (lv_room hcat) hd ⟨by omega, by omega⟩
  · exact va_runSN (n := n) (host := host) ⟨hx, hb, hml, hown, hts⟩ hM ⟨va_cnB n hts (gh_GI hw) rfl rfl rfl (hK.2.2 _ hl) (hts _ hw.2.1) hw.2.2 hf, hts _ hi, trivial⟩ hp rfl hn hL.1 hst (lv_room hcat) hd ⟨by omega, by omega⟩
theorem gh_callI (C : gh_X d z mm rm) {m1 : gh_M} {rm1 : Room} {index n a : Nat} (As : List Value) {st : List Value} {Po : Option Value → gh_H → Prop} (hM : gh_C l d m1 rm1 (.ref a :: As) g Po) (hl : gh_ML mm.1.cls index m1.1) (hw : gh_MW m1 n) (hi : Cond.instanceMethod m1.1 ∈ gh_T) (h0 : m1.1.name = "<init>") (hret : m1.2.2.2 = none) (hn : As.length = n) (hst : st = As.reverse ++ .ref a :: rest) (hcat : (rest.map fun v => v.category).sum ≤ 8) (hf : rm1.frames + 1 ≤ rm.frames ∧ 8 + (m1.2.2.1 + 11) + rm1.locals ≤ rm.locals) (hc : rm1.cells ≤ cb) (hs : rm1.slots ≤ sb) (hd : decode mm.2.1 pc = .ok (.invokespecial index, 3))
    (kk : ∀ (v : Option Value) (g1 : gh_H), Po v g1 → gh_W l d z (pc + 3) ls (v.toList ++ rest) g1 (cb - rm1.cells) (sb - rm1.slots)) : gh_W l d z pc ls st g cb sb := by
  refine gh_run (rm1 := rm1) (As := (Value.ref a :: As).toArray) hc hs ?_ kk
  obtain ⟨p, e, R, s, m, args, below, meth, c, nL, Q⟩ := z
  obtain ⟨⟨hx, hb, hml, hown, hts⟩, hr, hlk, hK, hR, hnm⟩ := C
  subst hR
  intro H locs la ce sl hG hL i9 j9
  obtain ⟨y1, b1, n1, ret1⟩ := m1
  dsimp only at hret
  subst hret
  have hp : PreS s H (gh_P d (.ref a :: As) g) (.ref a :: As) := ⟨gh_P.blind, fun U hU hW => ⟨rfl, by rw [hU]; exact hG, hK.warm hW⟩⟩
  rcases hl with hl | ⟨host, hl⟩
  · exact va_runI (n := n) ⟨hx, hb, hml, hown, hts⟩ hM ⟨callB_of n hts (gh_GI hw) rfl rfl rfl (hts _ hw.2.1) (hts _ hl) hw.2.2 hf, h0, hts _ hi⟩ hp rfl hn hL.1 hst (lv_room hcat) hd ⟨by omega, by omega⟩
  · exact va_runIN (n := n) (host := host) ⟨hx, hb, hml, hown, hts⟩ hM ⟨va_cnB n hts (gh_GI hw) rfl rfl rfl (hK.2.2 _ hl) (hts _ hw.2.1) hw.2.2 hf, h0, hts _ hi⟩ hp rfl hn hL.1 hst (lv_room hcat) hd ⟨by omega, by omega⟩
theorem gh_obj (C : gh_X d z mm rm) {index a : Nat} (hl : Cond.methodLink mm.1.cls index objectInit ∈ gh_T) (hi : Cond.instanceMethod objectInit ∈ gh_T) (hcd : Cond.code objectInit ⟨#[0xb1]⟩ 1 none ∈ gh_T) (hcat : (rest.map fun v => v.category).sum ≤ 8) (hf : 1 ≤ rm.frames ∧ 20 ≤ rm.locals) (hd : decode mm.2.1 pc = .ok (.invokespecial index, 3)) (kk : gh_W l d z (pc + 3) ls rest g cb sb) : gh_W l d z pc ls (.ref a :: rest) g cb sb := by
  obtain ⟨p, e, R, s, m, args, below, meth, c, nL, Q⟩ := z
  obtain ⟨⟨hx, hb, hml, hown, hts⟩, hr, hlk, hK, hR, hnm⟩ := C
  subst hR
  intro H locs la ce sl hG hlo hL i9 j9
  have h8 : 2 * (F0 m pc la (.ref a :: rest)).monitorRoom + (rest.map fun v => v.category).sum ≤ 8 := lv_room hcat
  exact W.objInit hx hb hown (hts _ hl) (hts _ hi) (hts _ hcd) rfl (hL.1.trans hml.symm) rfl hd hf.1 (by omega) (kk H locs la ce sl hG hlo hL i9 j9)
theorem gh_iret (C : gh_X d z mm rm) {Po : Option Value → gh_H → Prop} (hQ : gh_Q d z Po) {v : Int32} (hi : mm.2.2.2 = some .int) (hd : decode mm.2.1 pc = .ok (.ireturn, 1)) (hp : Po (some (.int v)) g) : gh_W l d z pc ls [.int v] g cb sb := by
  obtain ⟨p, e, R, s, m, args, below, meth, c, nL, Q⟩ := z
  obtain ⟨⟨hx, hb, hml, hown, hts⟩, hr, hlk, hK, hR, hnm⟩ := C
  have hQ : Q = _ := hQ
  subst hQ
  intro H locs la ce sl hG hlo hL i9 j9
  refine W.widen (k := R.cells) (n := R.slots) (by omega) (by omega) ?_
  exact W.iret (v := v) hx hb (hr.trans hi) (fun t ht hW => ⟨_, g, rfl, hp, by rw [ht]; exact hG⟩) hlo hd
theorem gh_zret (C : gh_X d z mm rm) {Po : Option Value → gh_H → Prop} (hQ : gh_Q d z Po) {v : Int32} (hi : mm.2.2.2 = some .boolean) (h01 : v = 0 ∨ v = 1) (hd : decode mm.2.1 pc = .ok (.ireturn, 1)) (hp : Po (some (.int v)) g) : gh_W l d z pc ls [.int v] g cb sb := by
  obtain ⟨p, e, R, s, m, args, below, meth, c, nL, Q⟩ := z
  obtain ⟨⟨hx, hb, hml, hown, hts⟩, hr, hlk, hK, hR, hnm⟩ := C
  have hQ : Q = _ := hQ
  subst hQ
  intro H locs la ce sl hG hlo hL i9 j9
  refine W.widen (k := R.cells) (n := R.slots) (by omega) (by omega) ?_
  exact W.zret (v := v) hx hb (hr.trans hi) (by rcases h01 with rfl | rfl <;> rfl) (fun t ht hW => ⟨_, g, rfl, hp, by rw [ht]; exact hG⟩) hlo hd
theorem gh_vret (C : gh_X d z mm rm) {Po : Option Value → gh_H → Prop} (hQ : gh_Q d z Po) (hi : mm.2.2.2 = none) (hd : decode mm.2.1 pc = .ok (.return_, 1)) (hp : Po (none) g) : gh_W l d z pc ls [] g cb sb := by
  obtain ⟨p, e, R, s, m, args, below, meth, c, nL, Q⟩ := z
  obtain ⟨⟨hx, hb, hml, hown, hts⟩, hr, hlk, hK, hR, hnm⟩ := C
  have hQ : Q = _ := hQ
  subst hQ
  intro H locs la ce sl hG hlo hL i9 j9
  refine W.widen (k := R.cells) (n := R.slots) (by omega) (by omega) ?_
  exact W.vret hx hb (hr.trans hi) (fun t ht hW => ⟨_, g, rfl, hp, by rw [ht]; exact hG⟩) hlo hd
theorem gh_aret (C : gh_X d z mm rm) {Po : Option Value → gh_H → Prop} (hQ : gh_Q d z Po) {v : Value} {rt : FieldType} (hi : mm.2.2.2 = some rt) (hrt : (∃ n, rt = .object n) ∨ ∃ t, rt = .array t) (hv : v = .null ∨ ∃ a, v = .ref a) (hd : decode mm.2.1 pc = .ok (.areturn, 1)) (hp : Po (some v) g) : gh_W l d z pc ls [v] g cb sb := by
  obtain ⟨p, e, R, s, m, args, below, meth, c, nL, Q⟩ := z
  obtain ⟨⟨hx, hb, hml, hown, hts⟩, hr, hlk, hK, hR, hnm⟩ := C
  have hQ : Q = _ := hQ
  subst hQ
  intro H locs la ce sl hG hlo hL i9 j9
  refine W.widen (k := R.cells) (n := R.slots) (by omega) (by omega) ?_
  exact W.aret (v := v) hx hb (hr.trans hi) hrt hv (fun t ht hW => ⟨_, g, rfl, hp, by rw [ht]; exact hG⟩) hlo hd
end GH
end
section
theorem gh_nw_in : ∀ w ∈ gh_nw, w ∈ lw_tbl := fun w hw => by
  have h : gh_nw = [114, 116, 118, 120, 235, 259, 351, 354, 399, 461, 574, 588, 609, 689, 694, 695, 703, 730].filterMap (fun i => lw_tbl[i]?) := by decide +kernel
  rw [h] at hw
  obtain ⟨i, -, hi⟩ := List.mem_filterMap.mp hw
  exact List.mem_of_getElem? hi
theorem wG : ∀ w ∈ u_ws RG FG 10, w ∈ gh_T := fun w hw => by
  have h : u_ws RG FG 10 = [276, 278, 280, 282, 284, 286, 288, 290, 292, 294].filterMap (fun i => lw_tbl[i]?) := by decide +kernel
  have hg : (u_ws RG FG 10).all goodWord = true := by decide +kernel
  refine List.mem_filter.mpr ⟨?_, List.all_eq_true.mp hg w hw⟩
  rw [h] at hw
  obtain ⟨i, -, hi⟩ := List.mem_filterMap.mp hw
  exact List.mem_of_getElem? hi
theorem wS : ∀ w ∈ u_ws RS FS 6, w ∈ gh_T := fun w hw => by
  have h : u_ws RS FS 6 = [98, 100, 102, 104, 106, 108].filterMap (fun i => lw_tbl[i]?) := by decide +kernel
  have hg : (u_ws RS FS 6).all goodWord = true := by decide +kernel
  refine List.mem_filter.mpr ⟨?_, List.all_eq_true.mp hg w hw⟩
  rw [h] at hw
  obtain ⟨i, -, hi⟩ := List.mem_filterMap.mp hw
  exact List.mem_of_getElem? hi
theorem wB : ∀ w ∈ u_ws RB FB 7, w ∈ gh_T := fun w hw => by
  have h : u_ws RB FB 7 = [140, 142, 144, 146, 148, 150, 152].filterMap (fun i => lw_tbl[i]?) := by decide +kernel
  have hg : (u_ws RB FB 7).all goodWord = true := by decide +kernel
  refine List.mem_filter.mpr ⟨?_, List.all_eq_true.mp hg w hw⟩
  rw [h] at hw
  obtain ⟨i, -, hi⟩ := List.mem_filterMap.mp hw
  exact List.mem_of_getElem? hi
theorem wE : ∀ w ∈ u_ws RE FE 9, w ∈ gh_T := fun w hw => by
  have h : u_ws RE FE 9 = [204, 206, 208, 210, 212, 214, 216, 218, 220].filterMap (fun i => lw_tbl[i]?) := by decide +kernel
  have hg : (u_ws RE FE 9).all goodWord = true := by decide +kernel
  refine List.mem_filter.mpr ⟨?_, List.all_eq_true.mp hg w hw⟩
  rw [h] at hw
  obtain ⟨i, -, hi⟩ := List.mem_filterMap.mp hw
  exact List.mem_of_getElem? hi
theorem wT : ∀ w ∈ u_ws RT FT 4, w ∈ gh_T := fun w hw => by
  have h : u_ws RT FT 4 = [170, 172, 174, 176].filterMap (fun i => lw_tbl[i]?) := by decide +kernel
  have hg : (u_ws RT FT 4).all goodWord = true := by decide +kernel
  refine List.mem_filter.mpr ⟨?_, List.all_eq_true.mp hg w hw⟩
  rw [h] at hw
  obtain ⟨i, -, hi⟩ := List.mem_filterMap.mp hw
  exact List.mem_of_getElem? hi
theorem wK : ∀ w ∈ u_ws RK FK 6, w ∈ gh_T := fun w hw => by
  have h : u_ws RK FK 6 = [490, 492, 494, 496, 498, 500].filterMap (fun i => lw_tbl[i]?) := by decide +kernel
  have hg : (u_ws RK FK 6).all goodWord = true := by decide +kernel
  refine List.mem_filter.mpr ⟨?_, List.all_eq_true.mp hg w hw⟩
  rw [h] at hw
  obtain ⟨i, -, hi⟩ := List.mem_filterMap.mp hw
  exact List.mem_of_getElem? hi
theorem wP : ∀ w ∈ u_ws RP FP 3, w ∈ gh_T := fun w hw => by
  have h : u_ws RP FP 3 = [529, 531, 533].filterMap (fun i => lw_tbl[i]?) := by decide +kernel
  have hg : (u_ws RP FP 3).all goodWord = true := by decide +kernel
  refine List.mem_filter.mpr ⟨?_, List.all_eq_true.mp hg w hw⟩
  rw [h] at hw
  obtain ⟨i, -, hi⟩ := List.mem_filterMap.mp hw
  exact List.mem_of_getElem? hi
theorem wR : ∀ w ∈ u_ws RR FR 52, w ∈ gh_T := fun w hw => by
  have h : u_ws RR FR 52 = [815, 817, 819, 821, 823, 825, 827, 829, 831, 833, 835, 837, 839, 841, 843, 845, 847, 849, 851, 853, 855, 857, 859, 861, 863, 865, 867, 869, 871, 873, 875, 877, 879, 881, 883, 885, 887, 889, 891, 893, 895, 897, 899, 901, 903, 905, 907, 909, 911, 913, 915, 917].filterMap (fun i => lw_tbl[i]?) := by decide +kernel
  have hg : (u_ws RR FR 52).all goodWord = true := by decide +kernel
  refine List.mem_filter.mpr ⟨?_, List.all_eq_true.mp hg w hw⟩
  rw [h] at hw
  obtain ⟨i, -, hi⟩ := List.mem_filterMap.mp hw
  exact List.mem_of_getElem? hi
theorem fS_11 : gh_F "RatchetGroup$Secrets" 11 1 0 := ⟨(RS, FS, 6), rfl, by decide, wS, Or.inl (gh_in 92 (by decide +kernel) rfl)⟩
theorem pS_11 : gh_FP "RatchetGroup$Secrets" 11 1 0 (.array .byte) false := ⟨(RS, FS, 6), tS, rfl, by decide, wS, tS_ok, nS, rfl, rfl, Or.inl ⟨(gh_in 92 (by decide +kernel) rfl), fun h => Bool.noConfusion h⟩⟩
theorem fS_25 : gh_F "RatchetGroup$Secrets" 25 1 1 := ⟨(RS, FS, 6), rfl, by decide, wS, Or.inl (gh_in 93 (by decide +kernel) rfl)⟩
theorem pS_25 : gh_FP "RatchetGroup$Secrets" 25 1 1 .int false := ⟨(RS, FS, 6), tS, rfl, by decide, wS, tS_ok, nS, rfl, rfl, Or.inl ⟨(gh_in 93 (by decide +kernel) rfl), fun h => Bool.noConfusion h⟩⟩
theorem fS_15 : gh_F "RatchetGroup$Secrets" 15 1 2 := ⟨(RS, FS, 6), rfl, by decide, wS, Or.inl (gh_in 94 (by decide +kernel) rfl)⟩
theorem pS_15 : gh_FP "RatchetGroup$Secrets" 15 1 2 (.array .int) false := ⟨(RS, FS, 6), tS, rfl, by decide, wS, tS_ok, nS, rfl, rfl, Or.inl ⟨(gh_in 94 (by decide +kernel) rfl), fun h => Bool.noConfusion h⟩⟩
theorem fS_19 : gh_F "RatchetGroup$Secrets" 19 1 3 := ⟨(RS, FS, 6), rfl, by decide, wS, Or.inl (gh_in 95 (by decide +kernel) rfl)⟩
theorem pS_19 : gh_FP "RatchetGroup$Secrets" 19 1 3 (.array .int) false := ⟨(RS, FS, 6), tS, rfl, by decide, wS, tS_ok, nS, rfl, rfl, Or.inl ⟨(gh_in 95 (by decide +kernel) rfl), fun h => Bool.noConfusion h⟩⟩
theorem fS_22 : gh_F "RatchetGroup$Secrets" 22 1 4 := ⟨(RS, FS, 6), rfl, by decide, wS, Or.inl (gh_in 96 (by decide +kernel) rfl)⟩
theorem pS_22 : gh_FP "RatchetGroup$Secrets" 22 1 4 (.array .int) false := ⟨(RS, FS, 6), tS, rfl, by decide, wS, tS_ok, nS, rfl, rfl, Or.inl ⟨(gh_in 96 (by decide +kernel) rfl), fun h => Bool.noConfusion h⟩⟩
theorem fS_47 : gh_F "RatchetGroup$Secrets" 47 1 5 := ⟨(RS, FS, 6), rfl, by decide, wS, Or.inl (gh_in 97 (by decide +kernel) rfl)⟩
theorem pS_47 : gh_FP "RatchetGroup$Secrets" 47 1 5 .int false := ⟨(RS, FS, 6), tS, rfl, by decide, wS, tS_ok, nS, rfl, rfl, Or.inl ⟨(gh_in 97 (by decide +kernel) rfl), fun h => Bool.noConfusion h⟩⟩
theorem fB_9 : gh_F "RatchetGroup$Member" 9 2 0 := ⟨(RB, FB, 7), rfl, by decide, wB, Or.inl (gh_in 129 (by decide +kernel) rfl)⟩
theorem pB_9 : gh_FP "RatchetGroup$Member" 9 2 0 .int false := ⟨(RB, FB, 7), tB, rfl, by decide, wB, tB_ok, nB, rfl, rfl, Or.inl ⟨(gh_in 129 (by decide +kernel) rfl), fun h => Bool.noConfusion h⟩⟩
theorem fG_161 : gh_F "RatchetGroup" 161 2 0 := ⟨(RB, FB, 7), rfl, by decide, wB, Or.inl (gh_in 130 (by decide +kernel) rfl)⟩
theorem pG_161 : gh_FP "RatchetGroup" 161 2 0 .int false := ⟨(RB, FB, 7), tB, rfl, by decide, wB, tB_ok, nB, rfl, rfl, Or.inl ⟨(gh_in 130 (by decide +kernel) rfl), fun h => Bool.noConfusion h⟩⟩
theorem fB_15 : gh_F "RatchetGroup$Member" 15 2 1 := ⟨(RB, FB, 7), rfl, by decide, wB, Or.inl (gh_in 131 (by decide +kernel) rfl)⟩
theorem pB_15 : gh_FP "RatchetGroup$Member" 15 2 1 .int false := ⟨(RB, FB, 7), tB, rfl, by decide, wB, tB_ok, nB, rfl, rfl, Or.inl ⟨(gh_in 131 (by decide +kernel) rfl), fun h => Bool.noConfusion h⟩⟩
theorem fG_110 : gh_F "RatchetGroup" 110 2 1 := ⟨(RB, FB, 7), rfl, by decide, wB, Or.inl (gh_in 132 (by decide +kernel) rfl)⟩
theorem pG_110 : gh_FP "RatchetGroup" 110 2 1 .int false := ⟨(RB, FB, 7), tB, rfl, by decide, wB, tB_ok, nB, rfl, rfl, Or.inl ⟨(gh_in 132 (by decide +kernel) rfl), fun h => Bool.noConfusion h⟩⟩
theorem fB_18 : gh_F "RatchetGroup$Member" 18 2 2 := ⟨(RB, FB, 7), rfl, by decide, wB, Or.inl (gh_in 133 (by decide +kernel) rfl)⟩
theorem pB_18 : gh_FP "RatchetGroup$Member" 18 2 2 .int false := ⟨(RB, FB, 7), tB, rfl, by decide, wB, tB_ok, nB, rfl, rfl, Or.inl ⟨(gh_in 133 (by decide +kernel) rfl), fun h => Bool.noConfusion h⟩⟩
theorem fG_190 : gh_F "RatchetGroup" 190 2 2 := ⟨(RB, FB, 7), rfl, by decide, wB, Or.inl (gh_in 134 (by decide +kernel) rfl)⟩
theorem pG_190 : gh_FP "RatchetGroup" 190 2 2 .int false := ⟨(RB, FB, 7), tB, rfl, by decide, wB, tB_ok, nB, rfl, rfl, Or.inl ⟨(gh_in 134 (by decide +kernel) rfl), fun h => Bool.noConfusion h⟩⟩
theorem fB_83 : gh_F "RatchetGroup$Member" 83 2 3 := ⟨(RB, FB, 7), rfl, by decide, wB, Or.inl (gh_in 135 (by decide +kernel) rfl)⟩
theorem pB_83 : gh_FP "RatchetGroup$Member" 83 2 3 .int false := ⟨(RB, FB, 7), tB, rfl, by decide, wB, tB_ok, nB, rfl, rfl, Or.inl ⟨(gh_in 135 (by decide +kernel) rfl), fun h => Bool.noConfusion h⟩⟩
theorem fG_181 : gh_F "RatchetGroup" 181 2 3 := ⟨(RB, FB, 7), rfl, by decide, wB, Or.inl (gh_in 136 (by decide +kernel) rfl)⟩
theorem pG_181 : gh_FP "RatchetGroup" 181 2 3 .int false := ⟨(RB, FB, 7), tB, rfl, by decide, wB, tB_ok, nB, rfl, rfl, Or.inl ⟨(gh_in 136 (by decide +kernel) rfl), fun h => Bool.noConfusion h⟩⟩
theorem fB_21 : gh_F "RatchetGroup$Member" 21 2 4 := ⟨(RB, FB, 7), rfl, by decide, wB, Or.inl (gh_in 137 (by decide +kernel) rfl)⟩
theorem pB_21 : gh_FP "RatchetGroup$Member" 21 2 4 (.array .int) true := ⟨(RB, FB, 7), tB, rfl, by decide, wB, tB_ok, nB, rfl, rfl, Or.inl ⟨(gh_in 137 (by decide +kernel) rfl), fun _ => rfl⟩⟩
theorem fB_25 : gh_F "RatchetGroup$Member" 25 2 5 := ⟨(RB, FB, 7), rfl, by decide, wB, Or.inl (gh_in 138 (by decide +kernel) rfl)⟩
theorem pB_25 : gh_FP "RatchetGroup$Member" 25 2 5 (.array .int) true := ⟨(RB, FB, 7), tB, rfl, by decide, wB, tB_ok, nB, rfl, rfl, Or.inl ⟨(gh_in 138 (by decide +kernel) rfl), fun _ => rfl⟩⟩
theorem fB_34 : gh_F "RatchetGroup$Member" 34 2 6 := ⟨(RB, FB, 7), rfl, by decide, wB, Or.inl (gh_in 139 (by decide +kernel) rfl)⟩
theorem pB_34 : gh_FP "RatchetGroup$Member" 34 2 6 .int false := ⟨(RB, FB, 7), tB, rfl, by decide, wB, tB_ok, nB, rfl, rfl, Or.inl ⟨(gh_in 139 (by decide +kernel) rfl), fun h => Bool.noConfusion h⟩⟩
theorem fT_27 : gh_F "RatchetGroup$Tree" 27 4 0 := ⟨(RT, FT, 4), rfl, by decide, wT, Or.inl (gh_in 164 (by decide +kernel) rfl)⟩
theorem pT_27 : gh_FP "RatchetGroup$Tree" 27 4 0 .int false := ⟨(RT, FT, 4), tT, rfl, by decide, wT, tT_ok, nT, rfl, rfl, Or.inl ⟨(gh_in 164 (by decide +kernel) rfl), fun h => Bool.noConfusion h⟩⟩
theorem fE_25 : gh_F "RatchetGroup$Epoch" 25 4 0 := ⟨(RT, FT, 4), rfl, by decide, wT, Or.inl (gh_in 165 (by decide +kernel) rfl)⟩
theorem pE_25 : gh_FP "RatchetGroup$Epoch" 25 4 0 .int false := ⟨(RT, FT, 4), tT, rfl, by decide, wT, tT_ok, nT, rfl, rfl, Or.inl ⟨(gh_in 165 (by decide +kernel) rfl), fun h => Bool.noConfusion h⟩⟩
theorem fG_212 : gh_F "RatchetGroup" 212 4 0 := ⟨(RT, FT, 4), rfl, by decide, wT, Or.inl (gh_in 166 (by decide +kernel) rfl)⟩
theorem pG_212 : gh_FP "RatchetGroup" 212 4 0 .int false := ⟨(RT, FT, 4), tT, rfl, by decide, wT, tT_ok, nT, rfl, rfl, Or.inl ⟨(gh_in 166 (by decide +kernel) rfl), fun h => Bool.noConfusion h⟩⟩
theorem fT_9 : gh_F "RatchetGroup$Tree" 9 4 1 := ⟨(RT, FT, 4), rfl, by decide, wT, Or.inl (gh_in 167 (by decide +kernel) rfl)⟩
theorem pT_9 : gh_FP "RatchetGroup$Tree" 9 4 1 (.array .int) true := ⟨(RT, FT, 4), tT, rfl, by decide, wT, tT_ok, nT, rfl, rfl, Or.inl ⟨(gh_in 167 (by decide +kernel) rfl), fun _ => rfl⟩⟩
theorem fT_15 : gh_F "RatchetGroup$Tree" 15 4 2 := ⟨(RT, FT, 4), rfl, by decide, wT, Or.inl (gh_in 168 (by decide +kernel) rfl)⟩
theorem pT_15 : gh_FP "RatchetGroup$Tree" 15 4 2 (.array .int) true := ⟨(RT, FT, 4), tT, rfl, by decide, wT, tT_ok, nT, rfl, rfl, Or.inl ⟨(gh_in 168 (by decide +kernel) rfl), fun _ => rfl⟩⟩
theorem fT_18 : gh_F "RatchetGroup$Tree" 18 4 3 := ⟨(RT, FT, 4), rfl, by decide, wT, Or.inl (gh_in 169 (by decide +kernel) rfl)⟩
theorem pT_18 : gh_FP "RatchetGroup$Tree" 18 4 3 (.array .int) true := ⟨(RT, FT, 4), tT, rfl, by decide, wT, tT_ok, nT, rfl, rfl, Or.inl ⟨(gh_in 169 (by decide +kernel) rfl), fun _ => rfl⟩⟩
theorem fE_15 : gh_F "RatchetGroup$Epoch" 15 3 0 := ⟨(RE, FE, 9), rfl, by decide, wE, Or.inl (gh_in 183 (by decide +kernel) rfl)⟩
theorem pE_15 : gh_FP "RatchetGroup$Epoch" 15 3 0 .int true := ⟨(RE, FE, 9), tE, rfl, by decide, wE, tE_ok, nE, rfl, rfl, Or.inl ⟨(gh_in 183 (by decide +kernel) rfl), fun _ => rfl⟩⟩
theorem fB_40 : gh_F "RatchetGroup$Member" 40 3 0 := ⟨(RE, FE, 9), rfl, by decide, wE, Or.inl (gh_in 184 (by decide +kernel) rfl)⟩
theorem fG_158 : gh_F "RatchetGroup" 158 3 0 := ⟨(RE, FE, 9), rfl, by decide, wE, Or.inl (gh_in 185 (by decide +kernel) rfl)⟩
theorem fE_18 : gh_F "RatchetGroup$Epoch" 18 3 1 := ⟨(RE, FE, 9), rfl, by decide, wE, Or.inl (gh_in 186 (by decide +kernel) rfl)⟩
theorem pE_18 : gh_FP "RatchetGroup$Epoch" 18 3 1 (.object "RatchetGroup$Tree") true := ⟨(RE, FE, 9), tE, rfl, by decide, wE, tE_ok, nE, rfl, rfl, Or.inl ⟨(gh_in 186 (by decide +kernel) rfl), fun _ => rfl⟩⟩
theorem fG_60 : gh_F "RatchetGroup" 60 3 1 := ⟨(RE, FE, 9), rfl, by decide, wE, Or.inl (gh_in 187 (by decide +kernel) rfl)⟩
theorem fB_46 : gh_F "RatchetGroup$Member" 46 3 1 := ⟨(RE, FE, 9), rfl, by decide, wE, Or.inl (gh_in 188 (by decide +kernel) rfl)⟩
theorem fE_22 : gh_F "RatchetGroup$Epoch" 22 3 2 := ⟨(RE, FE, 9), rfl, by decide, wE, Or.inl (gh_in 189 (by decide +kernel) rfl)⟩
theorem pE_22 : gh_FP "RatchetGroup$Epoch" 22 3 2 .int true := ⟨(RE, FE, 9), tE, rfl, by decide, wE, tE_ok, nE, rfl, rfl, Or.inl ⟨(gh_in 189 (by decide +kernel) rfl), fun _ => rfl⟩⟩
theorem fG_215 : gh_F "RatchetGroup" 215 3 2 := ⟨(RE, FE, 9), rfl, by decide, wE, Or.inl (gh_in 190 (by decide +kernel) rfl)⟩
theorem fE_9 : gh_F "RatchetGroup$Epoch" 9 3 3 := ⟨(RE, FE, 9), rfl, by decide, wE, Or.inl (gh_in 191 (by decide +kernel) rfl)⟩
theorem pE_9 : gh_FP "RatchetGroup$Epoch" 9 3 3 .int false := ⟨(RE, FE, 9), tE, rfl, by decide, wE, tE_ok, nE, rfl, rfl, Or.inl ⟨(gh_in 191 (by decide +kernel) rfl), fun h => Bool.noConfusion h⟩⟩
theorem fG_72 : gh_F "RatchetGroup" 72 3 3 := ⟨(RE, FE, 9), rfl, by decide, wE, Or.inl (gh_in 192 (by decide +kernel) rfl)⟩
theorem pG_72 : gh_FP "RatchetGroup" 72 3 3 .int false := ⟨(RE, FE, 9), tE, rfl, by decide, wE, tE_ok, nE, rfl, rfl, Or.inl ⟨(gh_in 192 (by decide +kernel) rfl), fun h => Bool.noConfusion h⟩⟩
theorem fB_45 : gh_F "RatchetGroup$Member" 45 3 3 := ⟨(RE, FE, 9), rfl, by decide, wE, Or.inl (gh_in 193 (by decide +kernel) rfl)⟩
theorem pB_45 : gh_FP "RatchetGroup$Member" 45 3 3 .int false := ⟨(RE, FE, 9), tE, rfl, by decide, wE, tE_ok, nE, rfl, rfl, Or.inl ⟨(gh_in 193 (by decide +kernel) rfl), fun h => Bool.noConfusion h⟩⟩
theorem fE_30 : gh_F "RatchetGroup$Epoch" 30 3 4 := ⟨(RE, FE, 9), rfl, by decide, wE, Or.inl (gh_in 194 (by decide +kernel) rfl)⟩
theorem pE_30 : gh_FP "RatchetGroup$Epoch" 30 3 4 .int false := ⟨(RE, FE, 9), tE, rfl, by decide, wE, tE_ok, nE, rfl, rfl, Or.inl ⟨(gh_in 194 (by decide +kernel) rfl), fun h => Bool.noConfusion h⟩⟩
theorem fB_104 : gh_F "RatchetGroup$Member" 104 3 4 := ⟨(RE, FE, 9), rfl, by decide, wE, Or.inl (gh_in 195 (by decide +kernel) rfl)⟩
theorem pB_104 : gh_FP "RatchetGroup$Member" 104 3 4 .int false := ⟨(RE, FE, 9), tE, rfl, by decide, wE, tE_ok, nE, rfl, rfl, Or.inl ⟨(gh_in 195 (by decide +kernel) rfl), fun h => Bool.noConfusion h⟩⟩
theorem fG_218 : gh_F "RatchetGroup" 218 3 4 := ⟨(RE, FE, 9), rfl, by decide, wE, Or.inl (gh_in 196 (by decide +kernel) rfl)⟩
theorem pG_218 : gh_FP "RatchetGroup" 218 3 4 .int false := ⟨(RE, FE, 9), tE, rfl, by decide, wE, tE_ok, nE, rfl, rfl, Or.inl ⟨(gh_in 196 (by decide +kernel) rfl), fun h => Bool.noConfusion h⟩⟩
theorem fB_70 : gh_F "RatchetGroup$Member" 70 3 5 := ⟨(RE, FE, 9), rfl, by decide, wE, Or.inl (gh_in 197 (by decide +kernel) rfl)⟩
theorem pB_70 : gh_FP "RatchetGroup$Member" 70 3 5 .int false := ⟨(RE, FE, 9), tE, rfl, by decide, wE, tE_ok, nE, rfl, rfl, Or.inl ⟨(gh_in 197 (by decide +kernel) rfl), fun h => Bool.noConfusion h⟩⟩
theorem fG_132 : gh_F "RatchetGroup" 132 3 5 := ⟨(RE, FE, 9), rfl, by decide, wE, Or.inl (gh_in 198 (by decide +kernel) rfl)⟩
theorem pG_132 : gh_FP "RatchetGroup" 132 3 5 .int false := ⟨(RE, FE, 9), tE, rfl, by decide, wE, tE_ok, nE, rfl, rfl, Or.inl ⟨(gh_in 198 (by decide +kernel) rfl), fun h => Bool.noConfusion h⟩⟩
theorem fB_76 : gh_F "RatchetGroup$Member" 76 3 6 := ⟨(RE, FE, 9), rfl, by decide, wE, Or.inl (gh_in 199 (by decide +kernel) rfl)⟩
theorem pB_76 : gh_FP "RatchetGroup$Member" 76 3 6 .int false := ⟨(RE, FE, 9), tE, rfl, by decide, wE, tE_ok, nE, rfl, rfl, Or.inl ⟨(gh_in 199 (by decide +kernel) rfl), fun h => Bool.noConfusion h⟩⟩
theorem fG_135 : gh_F "RatchetGroup" 135 3 6 := ⟨(RE, FE, 9), rfl, by decide, wE, Or.inl (gh_in 200 (by decide +kernel) rfl)⟩
theorem pG_135 : gh_FP "RatchetGroup" 135 3 6 .int false := ⟨(RE, FE, 9), tE, rfl, by decide, wE, tE_ok, nE, rfl, rfl, Or.inl ⟨(gh_in 200 (by decide +kernel) rfl), fun h => Bool.noConfusion h⟩⟩
theorem fG_138 : gh_F "RatchetGroup" 138 3 7 := ⟨(RE, FE, 9), rfl, by decide, wE, Or.inl (gh_in 201 (by decide +kernel) rfl)⟩
theorem pG_138 : gh_FP "RatchetGroup" 138 3 7 .int false := ⟨(RE, FE, 9), tE, rfl, by decide, wE, tE_ok, nE, rfl, rfl, Or.inl ⟨(gh_in 201 (by decide +kernel) rfl), fun h => Bool.noConfusion h⟩⟩
theorem fB_93 : gh_F "RatchetGroup$Member" 93 3 7 := ⟨(RE, FE, 9), rfl, by decide, wE, Or.inl (gh_in 202 (by decide +kernel) rfl)⟩
theorem pB_93 : gh_FP "RatchetGroup$Member" 93 3 7 .int false := ⟨(RE, FE, 9), tE, rfl, by decide, wE, tE_ok, nE, rfl, rfl, Or.inl ⟨(gh_in 202 (by decide +kernel) rfl), fun h => Bool.noConfusion h⟩⟩
theorem fG_221 : gh_F "RatchetGroup" 221 3 8 := ⟨(RE, FE, 9), rfl, by decide, wE, Or.inl (gh_in 203 (by decide +kernel) rfl)⟩
theorem pG_221 : gh_FP "RatchetGroup" 221 3 8 .int false := ⟨(RE, FE, 9), tE, rfl, by decide, wE, tE_ok, nE, rfl, rfl, Or.inl ⟨(gh_in 203 (by decide +kernel) rfl), fun h => Bool.noConfusion h⟩⟩
theorem fG_12 : gh_F "RatchetGroup" 12 0 0 := ⟨(RG, FG, 10), rfl, by decide, wG, Or.inl (gh_in 266 (by decide +kernel) rfl)⟩
theorem pG_12 : gh_FP "RatchetGroup" 12 0 0 (.object "RatchetGroup$Secrets") true := ⟨(RG, FG, 10), tG, rfl, by decide, wG, tG_ok, nG, rfl, rfl, Or.inl ⟨(gh_in 266 (by decide +kernel) rfl), fun _ => rfl⟩⟩
theorem fG_18 : gh_F "RatchetGroup" 18 0 1 := ⟨(RG, FG, 10), rfl, by decide, wG, Or.inl (gh_in 267 (by decide +kernel) rfl)⟩
theorem pG_18 : gh_FP "RatchetGroup" 18 0 1 (.array (.object "RatchetGroup$Member")) true := ⟨(RG, FG, 10), tG, rfl, by decide, wG, tG_ok, nG, rfl, rfl, Or.inl ⟨(gh_in 267 (by decide +kernel) rfl), fun _ => rfl⟩⟩
theorem fG_24 : gh_F "RatchetGroup" 24 0 2 := ⟨(RG, FG, 10), rfl, by decide, wG, Or.inl (gh_in 268 (by decide +kernel) rfl)⟩
theorem pG_24 : gh_FP "RatchetGroup" 24 0 2 (.array (.object "RatchetGroup$Epoch")) true := ⟨(RG, FG, 10), tG, rfl, by decide, wG, tG_ok, nG, rfl, rfl, Or.inl ⟨(gh_in 268 (by decide +kernel) rfl), fun _ => rfl⟩⟩
theorem fG_76 : gh_F "RatchetGroup" 76 0 3 := ⟨(RG, FG, 10), rfl, by decide, wG, Or.inl (gh_in 269 (by decide +kernel) rfl)⟩
theorem pG_76 : gh_FP "RatchetGroup" 76 0 3 .int false := ⟨(RG, FG, 10), tG, rfl, by decide, wG, tG_ok, nG, rfl, rfl, Or.inl ⟨(gh_in 269 (by decide +kernel) rfl), fun h => Bool.noConfusion h⟩⟩
theorem fG_30 : gh_F "RatchetGroup" 30 0 4 := ⟨(RG, FG, 10), rfl, by decide, wG, Or.inl (gh_in 270 (by decide +kernel) rfl)⟩
theorem pG_30 : gh_FP "RatchetGroup" 30 0 4 (.array (.object "RatchetGroup$KeyPackage")) true := ⟨(RG, FG, 10), tG, rfl, by decide, wG, tG_ok, nG, rfl, rfl, Or.inl ⟨(gh_in 270 (by decide +kernel) rfl), fun _ => rfl⟩⟩
theorem fG_90 : gh_F "RatchetGroup" 90 0 5 := ⟨(RG, FG, 10), rfl, by decide, wG, Or.inl (gh_in 271 (by decide +kernel) rfl)⟩
theorem pG_90 : gh_FP "RatchetGroup" 90 0 5 .int false := ⟨(RG, FG, 10), tG, rfl, by decide, wG, tG_ok, nG, rfl, rfl, Or.inl ⟨(gh_in 271 (by decide +kernel) rfl), fun h => Bool.noConfusion h⟩⟩
theorem fG_36 : gh_F "RatchetGroup" 36 0 6 := ⟨(RG, FG, 10), rfl, by decide, wG, Or.inl (gh_in 272 (by decide +kernel) rfl)⟩
theorem pG_36 : gh_FP "RatchetGroup" 36 0 6 (.array (.object "RatchetGroup$Proposal")) true := ⟨(RG, FG, 10), tG, rfl, by decide, wG, tG_ok, nG, rfl, rfl, Or.inl ⟨(gh_in 272 (by decide +kernel) rfl), fun _ => rfl⟩⟩
theorem fG_152 : gh_F "RatchetGroup" 152 0 7 := ⟨(RG, FG, 10), rfl, by decide, wG, Or.inl (gh_in 273 (by decide +kernel) rfl)⟩
theorem pG_152 : gh_FP "RatchetGroup" 152 0 7 .int false := ⟨(RG, FG, 10), tG, rfl, by decide, wG, tG_ok, nG, rfl, rfl, Or.inl ⟨(gh_in 273 (by decide +kernel) rfl), fun h => Bool.noConfusion h⟩⟩
theorem fG_40 : gh_F "RatchetGroup" 40 0 8 := ⟨(RG, FG, 10), rfl, by decide, wG, Or.inl (gh_in 274 (by decide +kernel) rfl)⟩
theorem pG_40 : gh_FP "RatchetGroup" 40 0 8 (.array .int) true := ⟨(RG, FG, 10), tG, rfl, by decide, wG, tG_ok, nG, rfl, rfl, Or.inl ⟨(gh_in 274 (by decide +kernel) rfl), fun _ => rfl⟩⟩
theorem fG_44 : gh_F "RatchetGroup" 44 0 9 := ⟨(RG, FG, 10), rfl, by decide, wG, Or.inl (gh_in 275 (by decide +kernel) rfl)⟩
theorem pG_44 : gh_FP "RatchetGroup" 44 0 9 (.array .int) true := ⟨(RG, FG, 10), tG, rfl, by decide, wG, tG_ok, nG, rfl, rfl, Or.inl ⟨(gh_in 275 (by decide +kernel) rfl), fun _ => rfl⟩⟩
theorem fK_18 : gh_F "RatchetGroup$KeyPackage" 18 5 0 := ⟨(RK, FK, 6), rfl, by decide, wK, Or.inl (gh_in 479 (by decide +kernel) rfl)⟩
theorem pK_18 : gh_FP "RatchetGroup$KeyPackage" 18 5 0 .int true := ⟨(RK, FK, 6), tK, rfl, by decide, wK, tK_ok, nK, rfl, rfl, Or.inl ⟨(gh_in 479 (by decide +kernel) rfl), fun _ => rfl⟩⟩
theorem fG_263 : gh_F "RatchetGroup" 263 5 0 := ⟨(RK, FK, 6), rfl, by decide, wK, Or.inl (gh_in 480 (by decide +kernel) rfl)⟩
theorem fK_21 : gh_F "RatchetGroup$KeyPackage" 21 5 1 := ⟨(RK, FK, 6), rfl, by decide, wK, Or.inl (gh_in 481 (by decide +kernel) rfl)⟩
theorem pK_21 : gh_FP "RatchetGroup$KeyPackage" 21 5 1 .int true := ⟨(RK, FK, 6), tK, rfl, by decide, wK, tK_ok, nK, rfl, rfl, Or.inl ⟨(gh_in 481 (by decide +kernel) rfl), fun _ => rfl⟩⟩
theorem fG_305 : gh_F "RatchetGroup" 305 5 1 := ⟨(RK, FK, 6), rfl, by decide, wK, Or.inl (gh_in 482 (by decide +kernel) rfl)⟩
theorem fK_24 : gh_F "RatchetGroup$KeyPackage" 24 5 2 := ⟨(RK, FK, 6), rfl, by decide, wK, Or.inl (gh_in 483 (by decide +kernel) rfl)⟩
theorem pK_24 : gh_FP "RatchetGroup$KeyPackage" 24 5 2 .int true := ⟨(RK, FK, 6), tK, rfl, by decide, wK, tK_ok, nK, rfl, rfl, Or.inl ⟨(gh_in 483 (by decide +kernel) rfl), fun _ => rfl⟩⟩
theorem fG_272 : gh_F "RatchetGroup" 272 5 2 := ⟨(RK, FK, 6), rfl, by decide, wK, Or.inl (gh_in 484 (by decide +kernel) rfl)⟩
theorem fK_9 : gh_F "RatchetGroup$KeyPackage" 9 5 3 := ⟨(RK, FK, 6), rfl, by decide, wK, Or.inl (gh_in 485 (by decide +kernel) rfl)⟩
theorem pK_9 : gh_FP "RatchetGroup$KeyPackage" 9 5 3 .int false := ⟨(RK, FK, 6), tK, rfl, by decide, wK, tK_ok, nK, rfl, rfl, Or.inl ⟨(gh_in 485 (by decide +kernel) rfl), fun h => Bool.noConfusion h⟩⟩
theorem fG_262 : gh_F "RatchetGroup" 262 5 3 := ⟨(RK, FK, 6), rfl, by decide, wK, Or.inl (gh_in 486 (by decide +kernel) rfl)⟩
theorem pG_262 : gh_FP "RatchetGroup" 262 5 3 .int false := ⟨(RK, FK, 6), tK, rfl, by decide, wK, tK_ok, nK, rfl, rfl, Or.inl ⟨(gh_in 486 (by decide +kernel) rfl), fun h => Bool.noConfusion h⟩⟩
theorem fK_15 : gh_F "RatchetGroup$KeyPackage" 15 5 4 := ⟨(RK, FK, 6), rfl, by decide, wK, Or.inl (gh_in 487 (by decide +kernel) rfl)⟩
theorem pK_15 : gh_FP "RatchetGroup$KeyPackage" 15 5 4 .int false := ⟨(RK, FK, 6), tK, rfl, by decide, wK, tK_ok, nK, rfl, rfl, Or.inl ⟨(gh_in 487 (by decide +kernel) rfl), fun h => Bool.noConfusion h⟩⟩
theorem fG_278 : gh_F "RatchetGroup" 278 5 4 := ⟨(RK, FK, 6), rfl, by decide, wK, Or.inl (gh_in 488 (by decide +kernel) rfl)⟩
theorem pG_278 : gh_FP "RatchetGroup" 278 5 4 .int false := ⟨(RK, FK, 6), tK, rfl, by decide, wK, tK_ok, nK, rfl, rfl, Or.inl ⟨(gh_in 488 (by decide +kernel) rfl), fun h => Bool.noConfusion h⟩⟩
theorem fG_314 : gh_F "RatchetGroup" 314 5 5 := ⟨(RK, FK, 6), rfl, by decide, wK, Or.inl (gh_in 489 (by decide +kernel) rfl)⟩
theorem pG_314 : gh_FP "RatchetGroup" 314 5 5 .boolean false := ⟨(RK, FK, 6), tK, rfl, by decide, wK, tK_ok, nK, rfl, rfl, Or.inl ⟨(gh_in 489 (by decide +kernel) rfl), fun h => Bool.noConfusion h⟩⟩
theorem fP_7 : gh_F "RatchetGroup$Proposal" 7 6 0 := ⟨(RP, FP, 3), rfl, by decide, wP, Or.inl (gh_in 523 (by decide +kernel) rfl)⟩
theorem pP_7 : gh_FP "RatchetGroup$Proposal" 7 6 0 .int true := ⟨(RP, FP, 3), tP, rfl, by decide, wP, tP_ok, nP, rfl, rfl, Or.inl ⟨(gh_in 523 (by decide +kernel) rfl), fun _ => rfl⟩⟩
theorem fG_227 : gh_F "RatchetGroup" 227 6 0 := ⟨(RP, FP, 3), rfl, by decide, wP, Or.inl (gh_in 524 (by decide +kernel) rfl)⟩
theorem fP_13 : gh_F "RatchetGroup$Proposal" 13 6 1 := ⟨(RP, FP, 3), rfl, by decide, wP, Or.inl (gh_in 525 (by decide +kernel) rfl)⟩
theorem pP_13 : gh_FP "RatchetGroup$Proposal" 13 6 1 .int true := ⟨(RP, FP, 3), tP, rfl, by decide, wP, tP_ok, nP, rfl, rfl, Or.inl ⟨(gh_in 525 (by decide +kernel) rfl), fun _ => rfl⟩⟩
theorem fG_230 : gh_F "RatchetGroup" 230 6 1 := ⟨(RP, FP, 3), rfl, by decide, wP, Or.inl (gh_in 526 (by decide +kernel) rfl)⟩
theorem fP_16 : gh_F "RatchetGroup$Proposal" 16 6 2 := ⟨(RP, FP, 3), rfl, by decide, wP, Or.inl (gh_in 527 (by decide +kernel) rfl)⟩
theorem pP_16 : gh_FP "RatchetGroup$Proposal" 16 6 2 .int true := ⟨(RP, FP, 3), tP, rfl, by decide, wP, tP_ok, nP, rfl, rfl, Or.inl ⟨(gh_in 527 (by decide +kernel) rfl), fun _ => rfl⟩⟩
theorem fG_251 : gh_F "RatchetGroup" 251 6 2 := ⟨(RP, FP, 3), rfl, by decide, wP, Or.inl (gh_in 528 (by decide +kernel) rfl)⟩
theorem fR_155 : gh_F "RatchetGroupModel" 155 7 0 := ⟨(RR, FR, 52), rfl, by decide, wR, Or.inl (gh_in 763 (by decide +kernel) rfl)⟩
theorem pR_155 : gh_FP "RatchetGroupModel" 155 7 0 .int false := ⟨(RR, FR, 52), tR, rfl, by decide, wR, tR_ok, nR, rfl, rfl, Or.inl ⟨(gh_in 763 (by decide +kernel) rfl), fun h => Bool.noConfusion h⟩⟩
theorem fR_158 : gh_F "RatchetGroupModel" 158 7 1 := ⟨(RR, FR, 52), rfl, by decide, wR, Or.inl (gh_in 764 (by decide +kernel) rfl)⟩
theorem pR_158 : gh_FP "RatchetGroupModel" 158 7 1 .int false := ⟨(RR, FR, 52), tR, rfl, by decide, wR, tR_ok, nR, rfl, rfl, Or.inl ⟨(gh_in 764 (by decide +kernel) rfl), fun h => Bool.noConfusion h⟩⟩
theorem fR_7 : gh_F "RatchetGroupModel" 7 7 2 := ⟨(RR, FR, 52), rfl, by decide, wR, Or.inl (gh_in 765 (by decide +kernel) rfl)⟩
theorem pR_7 : gh_FP "RatchetGroupModel" 7 7 2 (.array .int) true := ⟨(RR, FR, 52), tR, rfl, by decide, wR, tR_ok, nR, rfl, rfl, Or.inl ⟨(gh_in 765 (by decide +kernel) rfl), fun _ => rfl⟩⟩
theorem fR_13 : gh_F "RatchetGroupModel" 13 7 3 := ⟨(RR, FR, 52), rfl, by decide, wR, Or.inl (gh_in 766 (by decide +kernel) rfl)⟩
theorem pR_13 : gh_FP "RatchetGroupModel" 13 7 3 (.array .int) true := ⟨(RR, FR, 52), tR, rfl, by decide, wR, tR_ok, nR, rfl, rfl, Or.inl ⟨(gh_in 766 (by decide +kernel) rfl), fun _ => rfl⟩⟩
theorem fR_16 : gh_F "RatchetGroupModel" 16 7 4 := ⟨(RR, FR, 52), rfl, by decide, wR, Or.inl (gh_in 767 (by decide +kernel) rfl)⟩
theorem pR_16 : gh_FP "RatchetGroupModel" 16 7 4 (.array .int) true := ⟨(RR, FR, 52), tR, rfl, by decide, wR, tR_ok, nR, rfl, rfl, Or.inl ⟨(gh_in 767 (by decide +kernel) rfl), fun _ => rfl⟩⟩
theorem fR_19 : gh_F "RatchetGroupModel" 19 7 5 := ⟨(RR, FR, 52), rfl, by decide, wR, Or.inl (gh_in 768 (by decide +kernel) rfl)⟩
theorem pR_19 : gh_FP "RatchetGroupModel" 19 7 5 (.array .boolean) true := ⟨(RR, FR, 52), tR, rfl, by decide, wR, tR_ok, nR, rfl, rfl, Or.inl ⟨(gh_in 768 (by decide +kernel) rfl), fun _ => rfl⟩⟩
theorem fR_23 : gh_F "RatchetGroupModel" 23 7 6 := ⟨(RR, FR, 52), rfl, by decide, wR, Or.inl (gh_in 769 (by decide +kernel) rfl)⟩
theorem pR_23 : gh_FP "RatchetGroupModel" 23 7 6 (.array .boolean) true := ⟨(RR, FR, 52), tR, rfl, by decide, wR, tR_ok, nR, rfl, rfl, Or.inl ⟨(gh_in 769 (by decide +kernel) rfl), fun _ => rfl⟩⟩
theorem fR_161 : gh_F "RatchetGroupModel" 161 7 7 := ⟨(RR, FR, 52), rfl, by decide, wR, Or.inl (gh_in 770 (by decide +kernel) rfl)⟩
theorem pR_161 : gh_FP "RatchetGroupModel" 161 7 7 .int false := ⟨(RR, FR, 52), tR, rfl, by decide, wR, tR_ok, nR, rfl, rfl, Or.inl ⟨(gh_in 770 (by decide +kernel) rfl), fun h => Bool.noConfusion h⟩⟩
theorem fR_26 : gh_F "RatchetGroupModel" 26 7 8 := ⟨(RR, FR, 52), rfl, by decide, wR, Or.inl (gh_in 771 (by decide +kernel) rfl)⟩
theorem pR_26 : gh_FP "RatchetGroupModel" 26 7 8 (.array .int) true := ⟨(RR, FR, 52), tR, rfl, by decide, wR, tR_ok, nR, rfl, rfl, Or.inl ⟨(gh_in 771 (by decide +kernel) rfl), fun _ => rfl⟩⟩
theorem fR_29 : gh_F "RatchetGroupModel" 29 7 9 := ⟨(RR, FR, 52), rfl, by decide, wR, Or.inl (gh_in 772 (by decide +kernel) rfl)⟩
theorem pR_29 : gh_FP "RatchetGroupModel" 29 7 9 (.array .int) true := ⟨(RR, FR, 52), tR, rfl, by decide, wR, tR_ok, nR, rfl, rfl, Or.inl ⟨(gh_in 772 (by decide +kernel) rfl), fun _ => rfl⟩⟩
theorem fR_32 : gh_F "RatchetGroupModel" 32 7 10 := ⟨(RR, FR, 52), rfl, by decide, wR, Or.inl (gh_in 773 (by decide +kernel) rfl)⟩
theorem pR_32 : gh_FP "RatchetGroupModel" 32 7 10 (.array .int) true := ⟨(RR, FR, 52), tR, rfl, by decide, wR, tR_ok, nR, rfl, rfl, Or.inl ⟨(gh_in 773 (by decide +kernel) rfl), fun _ => rfl⟩⟩
theorem fR_35 : gh_F "RatchetGroupModel" 35 7 11 := ⟨(RR, FR, 52), rfl, by decide, wR, Or.inl (gh_in 774 (by decide +kernel) rfl)⟩
theorem pR_35 : gh_FP "RatchetGroupModel" 35 7 11 (.array .int) true := ⟨(RR, FR, 52), tR, rfl, by decide, wR, tR_ok, nR, rfl, rfl, Or.inl ⟨(gh_in 774 (by decide +kernel) rfl), fun _ => rfl⟩⟩
theorem fR_151 : gh_F "RatchetGroupModel" 151 7 12 := ⟨(RR, FR, 52), rfl, by decide, wR, Or.inl (gh_in 775 (by decide +kernel) rfl)⟩
theorem pR_151 : gh_FP "RatchetGroupModel" 151 7 12 .int false := ⟨(RR, FR, 52), tR, rfl, by decide, wR, tR_ok, nR, rfl, rfl, Or.inl ⟨(gh_in 775 (by decide +kernel) rfl), fun h => Bool.noConfusion h⟩⟩
theorem fR_38 : gh_F "RatchetGroupModel" 38 7 13 := ⟨(RR, FR, 52), rfl, by decide, wR, Or.inl (gh_in 776 (by decide +kernel) rfl)⟩
theorem pR_38 : gh_FP "RatchetGroupModel" 38 7 13 (.array .int) true := ⟨(RR, FR, 52), tR, rfl, by decide, wR, tR_ok, nR, rfl, rfl, Or.inl ⟨(gh_in 776 (by decide +kernel) rfl), fun _ => rfl⟩⟩
theorem fR_41 : gh_F "RatchetGroupModel" 41 7 14 := ⟨(RR, FR, 52), rfl, by decide, wR, Or.inl (gh_in 777 (by decide +kernel) rfl)⟩
theorem pR_41 : gh_FP "RatchetGroupModel" 41 7 14 (.array .int) true := ⟨(RR, FR, 52), tR, rfl, by decide, wR, tR_ok, nR, rfl, rfl, Or.inl ⟨(gh_in 777 (by decide +kernel) rfl), fun _ => rfl⟩⟩
theorem fR_44 : gh_F "RatchetGroupModel" 44 7 15 := ⟨(RR, FR, 52), rfl, by decide, wR, Or.inl (gh_in 778 (by decide +kernel) rfl)⟩
theorem pR_44 : gh_FP "RatchetGroupModel" 44 7 15 (.array .int) true := ⟨(RR, FR, 52), tR, rfl, by decide, wR, tR_ok, nR, rfl, rfl, Or.inl ⟨(gh_in 778 (by decide +kernel) rfl), fun _ => rfl⟩⟩
theorem fR_47 : gh_F "RatchetGroupModel" 47 7 16 := ⟨(RR, FR, 52), rfl, by decide, wR, Or.inl (gh_in 779 (by decide +kernel) rfl)⟩
theorem pR_47 : gh_FP "RatchetGroupModel" 47 7 16 (.array .int) true := ⟨(RR, FR, 52), tR, rfl, by decide, wR, tR_ok, nR, rfl, rfl, Or.inl ⟨(gh_in 779 (by decide +kernel) rfl), fun _ => rfl⟩⟩
theorem fR_50 : gh_F "RatchetGroupModel" 50 7 17 := ⟨(RR, FR, 52), rfl, by decide, wR, Or.inl (gh_in 780 (by decide +kernel) rfl)⟩
theorem pR_50 : gh_FP "RatchetGroupModel" 50 7 17 (.array .int) true := ⟨(RR, FR, 52), tR, rfl, by decide, wR, tR_ok, nR, rfl, rfl, Or.inl ⟨(gh_in 780 (by decide +kernel) rfl), fun _ => rfl⟩⟩
theorem fR_53 : gh_F "RatchetGroupModel" 53 7 18 := ⟨(RR, FR, 52), rfl, by decide, wR, Or.inl (gh_in 781 (by decide +kernel) rfl)⟩
theorem pR_53 : gh_FP "RatchetGroupModel" 53 7 18 (.array .int) true := ⟨(RR, FR, 52), tR, rfl, by decide, wR, tR_ok, nR, rfl, rfl, Or.inl ⟨(gh_in 781 (by decide +kernel) rfl), fun _ => rfl⟩⟩
theorem fR_56 : gh_F "RatchetGroupModel" 56 7 19 := ⟨(RR, FR, 52), rfl, by decide, wR, Or.inl (gh_in 782 (by decide +kernel) rfl)⟩
theorem pR_56 : gh_FP "RatchetGroupModel" 56 7 19 (.array .int) true := ⟨(RR, FR, 52), tR, rfl, by decide, wR, tR_ok, nR, rfl, rfl, Or.inl ⟨(gh_in 782 (by decide +kernel) rfl), fun _ => rfl⟩⟩
theorem fR_59 : gh_F "RatchetGroupModel" 59 7 20 := ⟨(RR, FR, 52), rfl, by decide, wR, Or.inl (gh_in 783 (by decide +kernel) rfl)⟩
theorem pR_59 : gh_FP "RatchetGroupModel" 59 7 20 (.array .int) true := ⟨(RR, FR, 52), tR, rfl, by decide, wR, tR_ok, nR, rfl, rfl, Or.inl ⟨(gh_in 783 (by decide +kernel) rfl), fun _ => rfl⟩⟩
theorem fR_62 : gh_F "RatchetGroupModel" 62 7 21 := ⟨(RR, FR, 52), rfl, by decide, wR, Or.inl (gh_in 784 (by decide +kernel) rfl)⟩
theorem pR_62 : gh_FP "RatchetGroupModel" 62 7 21 (.array .boolean) true := ⟨(RR, FR, 52), tR, rfl, by decide, wR, tR_ok, nR, rfl, rfl, Or.inl ⟨(gh_in 784 (by decide +kernel) rfl), fun _ => rfl⟩⟩
theorem fR_65 : gh_F "RatchetGroupModel" 65 7 22 := ⟨(RR, FR, 52), rfl, by decide, wR, Or.inl (gh_in 785 (by decide +kernel) rfl)⟩
theorem pR_65 : gh_FP "RatchetGroupModel" 65 7 22 (.array .int) true := ⟨(RR, FR, 52), tR, rfl, by decide, wR, tR_ok, nR, rfl, rfl, Or.inl ⟨(gh_in 785 (by decide +kernel) rfl), fun _ => rfl⟩⟩
theorem fR_68 : gh_F "RatchetGroupModel" 68 7 23 := ⟨(RR, FR, 52), rfl, by decide, wR, Or.inl (gh_in 786 (by decide +kernel) rfl)⟩
theorem pR_68 : gh_FP "RatchetGroupModel" 68 7 23 (.array .int) true := ⟨(RR, FR, 52), tR, rfl, by decide, wR, tR_ok, nR, rfl, rfl, Or.inl ⟨(gh_in 786 (by decide +kernel) rfl), fun _ => rfl⟩⟩
theorem fR_71 : gh_F "RatchetGroupModel" 71 7 24 := ⟨(RR, FR, 52), rfl, by decide, wR, Or.inl (gh_in 787 (by decide +kernel) rfl)⟩
theorem pR_71 : gh_FP "RatchetGroupModel" 71 7 24 (.array .int) true := ⟨(RR, FR, 52), tR, rfl, by decide, wR, tR_ok, nR, rfl, rfl, Or.inl ⟨(gh_in 787 (by decide +kernel) rfl), fun _ => rfl⟩⟩
theorem fR_74 : gh_F "RatchetGroupModel" 74 7 25 := ⟨(RR, FR, 52), rfl, by decide, wR, Or.inl (gh_in 788 (by decide +kernel) rfl)⟩
theorem pR_74 : gh_FP "RatchetGroupModel" 74 7 25 (.array .int) true := ⟨(RR, FR, 52), tR, rfl, by decide, wR, tR_ok, nR, rfl, rfl, Or.inl ⟨(gh_in 788 (by decide +kernel) rfl), fun _ => rfl⟩⟩
theorem fR_77 : gh_F "RatchetGroupModel" 77 7 26 := ⟨(RR, FR, 52), rfl, by decide, wR, Or.inl (gh_in 789 (by decide +kernel) rfl)⟩
theorem pR_77 : gh_FP "RatchetGroupModel" 77 7 26 (.array .int) true := ⟨(RR, FR, 52), tR, rfl, by decide, wR, tR_ok, nR, rfl, rfl, Or.inl ⟨(gh_in 789 (by decide +kernel) rfl), fun _ => rfl⟩⟩
theorem fR_80 : gh_F "RatchetGroupModel" 80 7 27 := ⟨(RR, FR, 52), rfl, by decide, wR, Or.inl (gh_in 790 (by decide +kernel) rfl)⟩
theorem pR_80 : gh_FP "RatchetGroupModel" 80 7 27 (.array .int) true := ⟨(RR, FR, 52), tR, rfl, by decide, wR, tR_ok, nR, rfl, rfl, Or.inl ⟨(gh_in 790 (by decide +kernel) rfl), fun _ => rfl⟩⟩
theorem fR_83 : gh_F "RatchetGroupModel" 83 7 28 := ⟨(RR, FR, 52), rfl, by decide, wR, Or.inl (gh_in 791 (by decide +kernel) rfl)⟩
theorem pR_83 : gh_FP "RatchetGroupModel" 83 7 28 (.array .int) true := ⟨(RR, FR, 52), tR, rfl, by decide, wR, tR_ok, nR, rfl, rfl, Or.inl ⟨(gh_in 791 (by decide +kernel) rfl), fun _ => rfl⟩⟩
theorem fR_86 : gh_F "RatchetGroupModel" 86 7 29 := ⟨(RR, FR, 52), rfl, by decide, wR, Or.inl (gh_in 792 (by decide +kernel) rfl)⟩
theorem pR_86 : gh_FP "RatchetGroupModel" 86 7 29 (.array .int) true := ⟨(RR, FR, 52), tR, rfl, by decide, wR, tR_ok, nR, rfl, rfl, Or.inl ⟨(gh_in 792 (by decide +kernel) rfl), fun _ => rfl⟩⟩
theorem fR_89 : gh_F "RatchetGroupModel" 89 7 30 := ⟨(RR, FR, 52), rfl, by decide, wR, Or.inl (gh_in 793 (by decide +kernel) rfl)⟩
theorem pR_89 : gh_FP "RatchetGroupModel" 89 7 30 (.array .int) true := ⟨(RR, FR, 52), tR, rfl, by decide, wR, tR_ok, nR, rfl, rfl, Or.inl ⟨(gh_in 793 (by decide +kernel) rfl), fun _ => rfl⟩⟩
theorem fR_92 : gh_F "RatchetGroupModel" 92 7 31 := ⟨(RR, FR, 52), rfl, by decide, wR, Or.inl (gh_in 794 (by decide +kernel) rfl)⟩
theorem pR_92 : gh_FP "RatchetGroupModel" 92 7 31 (.array .int) true := ⟨(RR, FR, 52), tR, rfl, by decide, wR, tR_ok, nR, rfl, rfl, Or.inl ⟨(gh_in 794 (by decide +kernel) rfl), fun _ => rfl⟩⟩
theorem fR_95 : gh_F "RatchetGroupModel" 95 7 32 := ⟨(RR, FR, 52), rfl, by decide, wR, Or.inl (gh_in 795 (by decide +kernel) rfl)⟩
theorem pR_95 : gh_FP "RatchetGroupModel" 95 7 32 (.array .boolean) true := ⟨(RR, FR, 52), tR, rfl, by decide, wR, tR_ok, nR, rfl, rfl, Or.inl ⟨(gh_in 795 (by decide +kernel) rfl), fun _ => rfl⟩⟩
theorem fR_98 : gh_F "RatchetGroupModel" 98 7 33 := ⟨(RR, FR, 52), rfl, by decide, wR, Or.inl (gh_in 796 (by decide +kernel) rfl)⟩
theorem pR_98 : gh_FP "RatchetGroupModel" 98 7 33 (.array .int) true := ⟨(RR, FR, 52), tR, rfl, by decide, wR, tR_ok, nR, rfl, rfl, Or.inl ⟨(gh_in 796 (by decide +kernel) rfl), fun _ => rfl⟩⟩
theorem fR_101 : gh_F "RatchetGroupModel" 101 7 34 := ⟨(RR, FR, 52), rfl, by decide, wR, Or.inl (gh_in 797 (by decide +kernel) rfl)⟩
theorem pR_101 : gh_FP "RatchetGroupModel" 101 7 34 (.array .int) true := ⟨(RR, FR, 52), tR, rfl, by decide, wR, tR_ok, nR, rfl, rfl, Or.inl ⟨(gh_in 797 (by decide +kernel) rfl), fun _ => rfl⟩⟩
theorem fR_189 : gh_F "RatchetGroupModel" 189 7 35 := ⟨(RR, FR, 52), rfl, by decide, wR, Or.inl (gh_in 798 (by decide +kernel) rfl)⟩
theorem pR_189 : gh_FP "RatchetGroupModel" 189 7 35 .int false := ⟨(RR, FR, 52), tR, rfl, by decide, wR, tR_ok, nR, rfl, rfl, Or.inl ⟨(gh_in 798 (by decide +kernel) rfl), fun h => Bool.noConfusion h⟩⟩
theorem fR_104 : gh_F "RatchetGroupModel" 104 7 36 := ⟨(RR, FR, 52), rfl, by decide, wR, Or.inl (gh_in 799 (by decide +kernel) rfl)⟩
theorem pR_104 : gh_FP "RatchetGroupModel" 104 7 36 (.array .int) true := ⟨(RR, FR, 52), tR, rfl, by decide, wR, tR_ok, nR, rfl, rfl, Or.inl ⟨(gh_in 799 (by decide +kernel) rfl), fun _ => rfl⟩⟩
theorem fR_107 : gh_F "RatchetGroupModel" 107 7 37 := ⟨(RR, FR, 52), rfl, by decide, wR, Or.inl (gh_in 800 (by decide +kernel) rfl)⟩
theorem pR_107 : gh_FP "RatchetGroupModel" 107 7 37 (.array .int) true := ⟨(RR, FR, 52), tR, rfl, by decide, wR, tR_ok, nR, rfl, rfl, Or.inl ⟨(gh_in 800 (by decide +kernel) rfl), fun _ => rfl⟩⟩
theorem fR_110 : gh_F "RatchetGroupModel" 110 7 38 := ⟨(RR, FR, 52), rfl, by decide, wR, Or.inl (gh_in 801 (by decide +kernel) rfl)⟩
theorem pR_110 : gh_FP "RatchetGroupModel" 110 7 38 (.array .int) true := ⟨(RR, FR, 52), tR, rfl, by decide, wR, tR_ok, nR, rfl, rfl, Or.inl ⟨(gh_in 801 (by decide +kernel) rfl), fun _ => rfl⟩⟩
theorem fR_113 : gh_F "RatchetGroupModel" 113 7 39 := ⟨(RR, FR, 52), rfl, by decide, wR, Or.inl (gh_in 802 (by decide +kernel) rfl)⟩
theorem pR_113 : gh_FP "RatchetGroupModel" 113 7 39 (.array .int) true := ⟨(RR, FR, 52), tR, rfl, by decide, wR, tR_ok, nR, rfl, rfl, Or.inl ⟨(gh_in 802 (by decide +kernel) rfl), fun _ => rfl⟩⟩
theorem fR_116 : gh_F "RatchetGroupModel" 116 7 40 := ⟨(RR, FR, 52), rfl, by decide, wR, Or.inl (gh_in 803 (by decide +kernel) rfl)⟩
theorem pR_116 : gh_FP "RatchetGroupModel" 116 7 40 (.array .int) true := ⟨(RR, FR, 52), tR, rfl, by decide, wR, tR_ok, nR, rfl, rfl, Or.inl ⟨(gh_in 803 (by decide +kernel) rfl), fun _ => rfl⟩⟩
theorem fR_119 : gh_F "RatchetGroupModel" 119 7 41 := ⟨(RR, FR, 52), rfl, by decide, wR, Or.inl (gh_in 804 (by decide +kernel) rfl)⟩
theorem pR_119 : gh_FP "RatchetGroupModel" 119 7 41 (.array .boolean) true := ⟨(RR, FR, 52), tR, rfl, by decide, wR, tR_ok, nR, rfl, rfl, Or.inl ⟨(gh_in 804 (by decide +kernel) rfl), fun _ => rfl⟩⟩
theorem fR_195 : gh_F "RatchetGroupModel" 195 7 42 := ⟨(RR, FR, 52), rfl, by decide, wR, Or.inl (gh_in 805 (by decide +kernel) rfl)⟩
theorem pR_195 : gh_FP "RatchetGroupModel" 195 7 42 .int false := ⟨(RR, FR, 52), tR, rfl, by decide, wR, tR_ok, nR, rfl, rfl, Or.inl ⟨(gh_in 805 (by decide +kernel) rfl), fun h => Bool.noConfusion h⟩⟩
theorem fR_122 : gh_F "RatchetGroupModel" 122 7 43 := ⟨(RR, FR, 52), rfl, by decide, wR, Or.inl (gh_in 806 (by decide +kernel) rfl)⟩
theorem pR_122 : gh_FP "RatchetGroupModel" 122 7 43 (.array .int) true := ⟨(RR, FR, 52), tR, rfl, by decide, wR, tR_ok, nR, rfl, rfl, Or.inl ⟨(gh_in 806 (by decide +kernel) rfl), fun _ => rfl⟩⟩
theorem fR_125 : gh_F "RatchetGroupModel" 125 7 44 := ⟨(RR, FR, 52), rfl, by decide, wR, Or.inl (gh_in 807 (by decide +kernel) rfl)⟩
theorem pR_125 : gh_FP "RatchetGroupModel" 125 7 44 (.array .int) true := ⟨(RR, FR, 52), tR, rfl, by decide, wR, tR_ok, nR, rfl, rfl, Or.inl ⟨(gh_in 807 (by decide +kernel) rfl), fun _ => rfl⟩⟩
theorem fR_128 : gh_F "RatchetGroupModel" 128 7 45 := ⟨(RR, FR, 52), rfl, by decide, wR, Or.inl (gh_in 808 (by decide +kernel) rfl)⟩
theorem pR_128 : gh_FP "RatchetGroupModel" 128 7 45 (.array .int) true := ⟨(RR, FR, 52), tR, rfl, by decide, wR, tR_ok, nR, rfl, rfl, Or.inl ⟨(gh_in 808 (by decide +kernel) rfl), fun _ => rfl⟩⟩
theorem fR_183 : gh_F "RatchetGroupModel" 183 7 46 := ⟨(RR, FR, 52), rfl, by decide, wR, Or.inl (gh_in 809 (by decide +kernel) rfl)⟩
theorem pR_183 : gh_FP "RatchetGroupModel" 183 7 46 .int false := ⟨(RR, FR, 52), tR, rfl, by decide, wR, tR_ok, nR, rfl, rfl, Or.inl ⟨(gh_in 809 (by decide +kernel) rfl), fun h => Bool.noConfusion h⟩⟩
theorem fR_131 : gh_F "RatchetGroupModel" 131 7 47 := ⟨(RR, FR, 52), rfl, by decide, wR, Or.inl (gh_in 810 (by decide +kernel) rfl)⟩
theorem pR_131 : gh_FP "RatchetGroupModel" 131 7 47 (.array .int) true := ⟨(RR, FR, 52), tR, rfl, by decide, wR, tR_ok, nR, rfl, rfl, Or.inl ⟨(gh_in 810 (by decide +kernel) rfl), fun _ => rfl⟩⟩
theorem fR_176 : gh_F "RatchetGroupModel" 176 7 48 := ⟨(RR, FR, 52), rfl, by decide, wR, Or.inl (gh_in 811 (by decide +kernel) rfl)⟩
theorem pR_176 : gh_FP "RatchetGroupModel" 176 7 48 .int false := ⟨(RR, FR, 52), tR, rfl, by decide, wR, tR_ok, nR, rfl, rfl, Or.inl ⟨(gh_in 811 (by decide +kernel) rfl), fun h => Bool.noConfusion h⟩⟩
theorem fR_134 : gh_F "RatchetGroupModel" 134 7 49 := ⟨(RR, FR, 52), rfl, by decide, wR, Or.inl (gh_in 812 (by decide +kernel) rfl)⟩
theorem pR_134 : gh_FP "RatchetGroupModel" 134 7 49 (.array .int) true := ⟨(RR, FR, 52), tR, rfl, by decide, wR, tR_ok, nR, rfl, rfl, Or.inl ⟨(gh_in 812 (by decide +kernel) rfl), fun _ => rfl⟩⟩
theorem fR_137 : gh_F "RatchetGroupModel" 137 7 50 := ⟨(RR, FR, 52), rfl, by decide, wR, Or.inl (gh_in 813 (by decide +kernel) rfl)⟩
theorem pR_137 : gh_FP "RatchetGroupModel" 137 7 50 (.array .int) true := ⟨(RR, FR, 52), tR, rfl, by decide, wR, tR_ok, nR, rfl, rfl, Or.inl ⟨(gh_in 813 (by decide +kernel) rfl), fun _ => rfl⟩⟩
theorem fR_140 : gh_F "RatchetGroupModel" 140 7 51 := ⟨(RR, FR, 52), rfl, by decide, wR, Or.inl (gh_in 814 (by decide +kernel) rfl)⟩
theorem pR_140 : gh_FP "RatchetGroupModel" 140 7 51 (.array .int) true := ⟨(RR, FR, 52), tR, rfl, by decide, wR, tR_ok, nR, rfl, rfl, Or.inl ⟨(gh_in 814 (by decide +kernel) rfl), fun _ => rfl⟩⟩
theorem kL_8 : Cond.classLink "RatchetGroupLaw" 8 "RatchetGroup" ∈ gh_T := (gh_in 78 (by decide +kernel) rfl)
theorem zL_8 : gh_N "RatchetGroupLaw" 8 0 10 [.null, .null, .null, .int 0, .null, .int 0, .null, .int 0, .null, .null] := ⟨(RG, FG, 10), tG, rfl, rfl, wG, tG_ok, kL_8, (gh_in 79 (by decide +kernel) rfl), (gh_in 61 (by decide +kernel) rfl), by decide +kernel⟩
theorem kG_9 : Cond.classLink "RatchetGroup" 9 "RatchetGroup$Secrets" ∈ gh_T := (gh_in 86 (by decide +kernel) rfl)
theorem zG_9 : gh_N "RatchetGroup" 9 1 6 [.null, .int 0, .null, .null, .null, .int 0] := ⟨(RS, FS, 6), tS, rfl, rfl, wS, tS_ok, kG_9, (gh_in 87 (by decide +kernel) rfl), (gh_in 62 (by decide +kernel) rfl), by decide +kernel⟩
theorem kG_16 : Cond.classLink "RatchetGroup" 16 "RatchetGroup$Member" ∈ gh_T := (gh_in 113 (by decide +kernel) rfl)
theorem zG_16 : gh_N "RatchetGroup" 16 2 7 [.int 0, .int 0, .int 0, .int 0, .null, .null, .int 0] := ⟨(RB, FB, 7), tB, rfl, rfl, wB, tB_ok, kG_16, (gh_in 121 (by decide +kernel) rfl), (gh_in 63 (by decide +kernel) rfl), by decide +kernel⟩
theorem kG_22 : Cond.classLink "RatchetGroup" 22 "RatchetGroup$Epoch" ∈ gh_T := (gh_in 115 (by decide +kernel) rfl)
theorem zG_22 : gh_N "RatchetGroup" 22 3 9 [.int 0, .null, .int 0, .int 0, .int 0, .int 0, .int 0, .int 0, .int 0] := ⟨(RE, FE, 9), tE, rfl, rfl, wE, tE_ok, kG_22, (gh_in 156 (by decide +kernel) rfl), (gh_in 65 (by decide +kernel) rfl), by decide +kernel⟩
theorem kG_28 : Cond.classLink "RatchetGroup" 28 "RatchetGroup$KeyPackage" ∈ gh_T := (gh_in 117 (by decide +kernel) rfl)
theorem zG_28 : gh_N "RatchetGroup" 28 5 6 [.int 0, .int 0, .int 0, .int 0, .int 0, .int 0] := ⟨(RK, FK, 6), tK, rfl, rfl, wK, tK_ok, kG_28, (gh_in 474 (by decide +kernel) rfl), (gh_in 75 (by decide +kernel) rfl), by decide +kernel⟩
theorem kG_34 : Cond.classLink "RatchetGroup" 34 "RatchetGroup$Proposal" ∈ gh_T := (gh_in 119 (by decide +kernel) rfl)
theorem zG_34 : gh_N "RatchetGroup" 34 6 3 [.int 0, .int 0, .int 0] := ⟨(RP, FP, 3), tP, rfl, rfl, wP, tP_ok, kG_34, (gh_in 518 (by decide +kernel) rfl), (gh_in 76 (by decide +kernel) rfl), by decide +kernel⟩
theorem kG_54 : Cond.classLink "RatchetGroup" 54 "RatchetGroup$Tree" ∈ gh_T := (gh_in 157 (by decide +kernel) rfl)
theorem zG_54 : gh_N "RatchetGroup" 54 4 4 [.int 0, .null, .null, .null] := ⟨(RT, FT, 4), tT, rfl, rfl, wT, tT_ok, kG_54, (gh_in 158 (by decide +kernel) rfl), (gh_in 66 (by decide +kernel) rfl), by decide +kernel⟩
theorem kA_311 : Cond.classLink "java/util/Arrays" 311 "[B" ∈ gh_T := (gh_in 236 (by decide +kernel) rfl)
theorem kL_13 : Cond.classLink "RatchetGroupLaw" 13 "java/lang/IndexOutOfBoundsException" ∈ gh_T := (gh_in 391 (by decide +kernel) rfl)
theorem kL_15 : Cond.classLink "RatchetGroupLaw" 15 "java/lang/IllegalStateException" ∈ gh_T := (gh_in 392 (by decide +kernel) rfl)
theorem kG_87 : Cond.classLink "RatchetGroup" 87 "java/lang/IndexOutOfBoundsException" ∈ gh_T := (gh_in 397 (by decide +kernel) rfl)
theorem kG_93 : Cond.classLink "RatchetGroup" 93 "java/lang/IllegalStateException" ∈ gh_T := (gh_in 459 (by decide +kernel) rfl)
theorem kA_317 : Cond.classLink "java/util/Arrays" 317 "[I" ∈ gh_T := (gh_in 575 (by decide +kernel) rfl)
theorem kL_38 : Cond.classLink "RatchetGroupLaw" 38 "RatchetGroupModel" ∈ gh_T := (gh_in 749 (by decide +kernel) rfl)
theorem zL_38 : gh_N "RatchetGroupLaw" 38 7 52 [.int 0, .int 0, .null, .null, .null, .null, .null, .int 0, .null, .null, .null, .null, .int 0, .null, .null, .null, .null, .null, .null, .null, .null, .null, .null, .null, .null, .null, .null, .null, .null, .null, .null, .null, .null, .null, .null, .int 0, .null, .null, .null, .null, .null, .null, .int 0, .null, .null, .null, .int 0, .null, .int 0, .null, .null, .null] := ⟨(RR, FR, 52), tR, rfl, rfl, wR, tR_ok, kL_38, (gh_in 750 (by decide +kernel) rfl), (gh_in 69 (by decide +kernel) rfl), by decide +kernel⟩
theorem ac_0 : Cond.arrayClass .int ∈ gh_T := (gh_in 112 (by decide +kernel) rfl)
theorem ac_1 : Cond.arrayClass .byte ∈ gh_T := (gh_in 111 (by decide +kernel) rfl)
theorem ac_2 : Cond.arrayClass .boolean ∈ gh_T := (gh_in 920 (by decide +kernel) rfl)
theorem ac_3 : Cond.arrayClass .long ∈ gh_T := (gh_in 1142 (by decide +kernel) rfl)
end
section
def mG_init : gh_M := (⟨"RatchetGroup", "<init>", "()V"⟩, prog_1_method_1_code, 2, none)
def mS_init : gh_M := (⟨"RatchetGroup$Secrets", "<init>", "()V"⟩, prog_6_method_1_code, 1, none)
def mB_init : gh_M := (⟨"RatchetGroup$Member", "<init>", "()V"⟩, prog_4_method_1_code, 1, none)
def mA_fill : gh_M := (⟨"java/util/Arrays", "fill", "([II)V"⟩, prog_19_method_103_code, 4, none)
def mT_init0 : gh_M := (⟨"RatchetGroup$Tree", "<init>", "()V"⟩, prog_7_method_1_code, 1, none)
def mE_init : gh_M := (⟨"RatchetGroup$Epoch", "<init>", "(ILRatchetGroup$Tree;I)V"⟩, prog_2_method_1_code, 4, none)
def mS_fresh : gh_M := (⟨"RatchetGroup$Secrets", "fresh", "()I"⟩, prog_6_method_2_code, 1, (some .int))
def mA_copyOf0 : gh_M := (⟨"java/util/Arrays", "copyOf", "([BI)[B"⟩, prog_19_method_121_code, 3, (some (.array .byte)))
def mH_min : gh_M := (⟨"java/lang/Math", "min", "(II)I"⟩, prog_15_method_69_code, 2, (some .int))
def mT_give : gh_M := (⟨"RatchetGroup$Tree", "give", "(III)V"⟩, prog_7_method_7_code, 4, none)
def mT_isThere : gh_M := (⟨"RatchetGroup$Tree", "isThere", "(I)Z"⟩, prog_7_method_3_code, 2, (some .boolean))
def mB_enter : gh_M := (⟨"RatchetGroup$Member", "enter", "(LRatchetGroup$Epoch;I)V"⟩, prog_4_method_3_code, 3, none)
def mB_leave : gh_M := (⟨"RatchetGroup$Member", "leave", "()V"⟩, prog_4_method_4_code, 1, none)
def mG_leafNode : gh_M := (⟨"RatchetGroup", "leafNode", "(I)I"⟩, prog_1_method_40_code, 1, (some .int))
def mT_keyOf : gh_M := (⟨"RatchetGroup$Tree", "keyOf", "(I)I"⟩, prog_7_method_4_code, 2, (some .int))
def mG_member : gh_M := (⟨"RatchetGroup", "member", "(II)I"⟩, prog_1_method_9_code, 4, (some .int))
def mG_isMember : gh_M := (⟨"RatchetGroup", "isMember", "(I)Z"⟩, prog_1_method_19_code, 1, (some .boolean))
def mG_gather : gh_M := (⟨"RatchetGroup", "gather", "(I)I"⟩, prog_1_method_38_code, 4, (some .int))
def mB_gatherInto : gh_M := (⟨"RatchetGroup$Member", "gatherInto", "([I)I"⟩, prog_4_method_10_code, 4, (some .int))
def mG_holds : gh_M := (⟨"RatchetGroup", "holds", "(II)Z"⟩, prog_1_method_10_code, 6, (some .boolean))
def mG_isEpoch : gh_M := (⟨"RatchetGroup", "isEpoch", "(I)Z"⟩, prog_1_method_20_code, 2, (some .boolean))
def mG_has : gh_M := (⟨"RatchetGroup", "has", "(I)Z"⟩, prog_1_method_11_code, 2, (some .boolean))
def mG_node : gh_M := (⟨"RatchetGroup", "node", "(III)I"⟩, prog_1_method_12_code, 5, (some .int))
def mT_unmergedAt : gh_M := (⟨"RatchetGroup$Tree", "unmergedAt", "(I)I"⟩, prog_7_method_6_code, 2, (some .int))
def mT_bornAt : gh_M := (⟨"RatchetGroup$Tree", "bornAt", "(I)I"⟩, prog_7_method_5_code, 2, (some .int))
def mG_heightOf : gh_M := (⟨"RatchetGroup", "heightOf", "(I)I"⟩, prog_1_method_43_code, 1, (some .int))
def mI_bitCount : gh_M := (⟨"java/lang/Integer", "bitCount", "(I)I"⟩, prog_14_method_49_code, 1, (some .int))
def mT_resolution : gh_M := (⟨"RatchetGroup$Tree", "resolution", "(II)I"⟩, prog_7_method_14_code, 4, (some .int))
def mG_bit : gh_M := (⟨"RatchetGroup", "bit", "(I)I"⟩, prog_1_method_39_code, 1, (some .int))
def mG_leafNodes : gh_M := (⟨"RatchetGroup", "leafNodes", "(I)I"⟩, prog_1_method_44_code, 3, (some .int))
def mG_epoch : gh_M := (⟨"RatchetGroup", "epoch", "(II)I"⟩, prog_1_method_13_code, 4, (some .int))
def mG_epochs : gh_M := (⟨"RatchetGroup", "epochs", "()I"⟩, prog_1_method_14_code, 1, (some .int))
def mG_waiting : gh_M := (⟨"RatchetGroup", "waiting", "()I"⟩, prog_1_method_15_code, 1, (some .int))
def mG_isKnown : gh_M := (⟨"RatchetGroup", "isKnown", "(I)Z"⟩, prog_1_method_16_code, 2, (some .boolean))
def mS_isOut : gh_M := (⟨"RatchetGroup$Secrets", "isOut", "(I)Z"⟩, prog_6_method_8_code, 2, (some .boolean))
def mG_isOpen : gh_M := (⟨"RatchetGroup", "isOpen", "(II)Z"⟩, prog_1_method_17_code, 3, (some .boolean))
def mG_known : gh_M := (⟨"RatchetGroup", "known", "()I"⟩, prog_1_method_18_code, 3, (some .int))
def mL_offer : gh_M := (⟨"RatchetGroupLaw", "offer", "(LRatchetGroup;I[J)I"⟩, method_3_code, 4, (some .int))
def mG_offer : gh_M := (⟨"RatchetGroup", "offer", "(I)I"⟩, prog_1_method_2_code, 3, (some .int))
def mK_init : gh_M := (⟨"RatchetGroup$KeyPackage", "<init>", "(III)V"⟩, prog_3_method_1_code, 4, none)
def mL_add : gh_M := (⟨"RatchetGroupLaw", "add", "(LRatchetGroup;II[J)I"⟩, method_4_code, 5, (some .int))
def mG_add : gh_M := (⟨"RatchetGroup", "add", "(II)I"⟩, prog_1_method_3_code, 3, (some .int))
def mG_mayPropose : gh_M := (⟨"RatchetGroup", "mayPropose", "(I)Z"⟩, prog_1_method_22_code, 2, (some .boolean))
def mG_isInLatest : gh_M := (⟨"RatchetGroup", "isInLatest", "(I)Z"⟩, prog_1_method_21_code, 2, (some .boolean))
def mP_init : gh_M := (⟨"RatchetGroup$Proposal", "<init>", "(III)V"⟩, prog_5_method_1_code, 4, none)
def mG_propose : gh_M := (⟨"RatchetGroup", "propose", "(LRatchetGroup$Proposal;)I"⟩, prog_1_method_23_code, 2, (some .int))
def mL_remove : gh_M := (⟨"RatchetGroupLaw", "remove", "(LRatchetGroup;II[J)I"⟩, method_5_code, 5, (some .int))
def mG_remove : gh_M := (⟨"RatchetGroup", "remove", "(II)I"⟩, prog_1_method_4_code, 3, (some .int))
def mL_update : gh_M := (⟨"RatchetGroupLaw", "update", "(LRatchetGroup;I[J)I"⟩, method_6_code, 4, (some .int))
def mG_update : gh_M := (⟨"RatchetGroup", "update", "(I)I"⟩, prog_1_method_5_code, 4, (some .int))
def mB_keepUpdate : gh_M := (⟨"RatchetGroup$Member", "keepUpdate", "(I)V"⟩, prog_4_method_2_code, 2, none)
def mL_commit : gh_M := (⟨"RatchetGroupLaw", "commit", "(LRatchetGroup;IZ[J)I"⟩, method_7_code, 5, (some .int))
def mG_commit : gh_M := (⟨"RatchetGroup", "commit", "(IZ)I"⟩, prog_1_method_6_code, 9, (some .int))
def mT_init1 : gh_M := (⟨"RatchetGroup$Tree", "<init>", "(LRatchetGroup$Tree;)V"⟩, prog_7_method_2_code, 2, none)
def mA_copyOf1 : gh_M := (⟨"java/util/Arrays", "copyOf", "([II)[I"⟩, prog_19_method_123_code, 3, (some (.array .int)))
def mS_ruleCount : gh_M := (⟨"RatchetGroup$Secrets", "ruleCount", "()I"⟩, prog_6_method_6_code, 1, (some .int))
def mG_doRemoves : gh_M := (⟨"RatchetGroup", "doRemoves", "(LRatchetGroup$Epoch;)V"⟩, prog_1_method_24_code, 4, none)
def mT_blankLeafAndPath : gh_M := (⟨"RatchetGroup$Tree", "blankLeafAndPath", "(I)V"⟩, prog_7_method_9_code, 3, none)
def mG_pathNode : gh_M := (⟨"RatchetGroup", "pathNode", "(II)I"⟩, prog_1_method_41_code, 2, (some .int))
def mT_blank : gh_M := (⟨"RatchetGroup$Tree", "blank", "(I)V"⟩, prog_7_method_8_code, 2, none)
def mG_dismiss : gh_M := (⟨"RatchetGroup", "dismiss", "(I)V"⟩, prog_1_method_25_code, 3, none)
def mT_shrink : gh_M := (⟨"RatchetGroup$Tree", "shrink", "()V"⟩, prog_7_method_11_code, 2, none)
def mT_firstLeafWithKey : gh_M := (⟨"RatchetGroup$Tree", "firstLeafWithKey", "(I)I"⟩, prog_7_method_12_code, 3, (some .int))
def mG_doUpdates : gh_M := (⟨"RatchetGroup", "doUpdates", "(LRatchetGroup$Epoch;)V"⟩, prog_1_method_26_code, 4, none)
def mG_doAdds : gh_M := (⟨"RatchetGroup", "doAdds", "(LRatchetGroup$Epoch;)V"⟩, prog_1_method_27_code, 3, none)
def mG_mayBeAdded : gh_M := (⟨"RatchetGroup", "mayBeAdded", "(LRatchetGroup$KeyPackage;)Z"⟩, prog_1_method_28_code, 2, (some .boolean))
def mG_hasLeaf : gh_M := (⟨"RatchetGroup", "hasLeaf", "(I)Z"⟩, prog_1_method_29_code, 3, (some .boolean))
def mG_addBy : gh_M := (⟨"RatchetGroup", "addBy", "(LRatchetGroup$KeyPackage;LRatchetGroup$Epoch;)V"⟩, prog_1_method_30_code, 4, none)
def mT_makeRoom : gh_M := (⟨"RatchetGroup$Tree", "makeRoom", "()I"⟩, prog_7_method_13_code, 2, (some .int))
def mT_markUnmerged : gh_M := (⟨"RatchetGroup$Tree", "markUnmerged", "(I)V"⟩, prog_7_method_10_code, 4, none)
def mG_makePath : gh_M := (⟨"RatchetGroup", "makePath", "(LRatchetGroup$Epoch;)I"⟩, prog_1_method_31_code, 8, (some .int))
def mG_sideNode : gh_M := (⟨"RatchetGroup", "sideNode", "(II)I"⟩, prog_1_method_42_code, 2, (some .int))
def mS_derive : gh_M := (⟨"RatchetGroup$Secrets", "derive", "(I)I"⟩, prog_6_method_3_code, 2, (some .int))
def mS_deriveOfTwo : gh_M := (⟨"RatchetGroup$Secrets", "deriveOfTwo", "(II)I"⟩, prog_6_method_4_code, 4, (some .int))
def mS_tie : gh_M := (⟨"RatchetGroup$Secrets", "tie", "(III)V"⟩, prog_6_method_5_code, 4, none)
def mG_sendToNodes : gh_M := (⟨"RatchetGroup", "sendToNodes", "(LRatchetGroup$Epoch;II)V"⟩, prog_1_method_32_code, 5, none)
def mG_encrypt : gh_M := (⟨"RatchetGroup", "encrypt", "(LRatchetGroup$Epoch;II)V"⟩, prog_1_method_35_code, 4, none)
def mG_sendToAdded : gh_M := (⟨"RatchetGroup", "sendToAdded", "(LRatchetGroup$Epoch;III)V"⟩, prog_1_method_33_code, 6, none)
def mG_openEpoch : gh_M := (⟨"RatchetGroup", "openEpoch", "(LRatchetGroup$Epoch;LRatchetGroup$Epoch;I)V"⟩, prog_1_method_34_code, 6, none)
def mB_moveByCommit : gh_M := (⟨"RatchetGroup$Member", "moveByCommit", "(LRatchetGroup$Epoch;)V"⟩, prog_4_method_5_code, 2, none)
def mB_dropOldKeys : gh_M := (⟨"RatchetGroup$Member", "dropOldKeys", "(LRatchetGroup$Tree;)V"⟩, prog_4_method_8_code, 3, none)
def mE_lowestCounting : gh_M := (⟨"RatchetGroup$Epoch", "lowestCounting", "(I)I"⟩, prog_2_method_2_code, 3, (some .int))
def mB_learnPath : gh_M := (⟨"RatchetGroup$Member", "learnPath", "(LRatchetGroup$Epoch;I)V"⟩, prog_4_method_9_code, 5, none)
def mH_max : gh_M := (⟨"java/lang/Math", "max", "(II)I"⟩, prog_15_method_65_code, 2, (some .int))
def mS_spread : gh_M := (⟨"RatchetGroup$Secrets", "spread", "(I)V"⟩, prog_6_method_9_code, 3, none)
def mS_learn : gh_M := (⟨"RatchetGroup$Secrets", "learn", "(I)V"⟩, prog_6_method_7_code, 2, none)
def mL_come : gh_M := (⟨"RatchetGroupLaw", "come", "(LRatchetGroup;I[J)I"⟩, method_8_code, 4, (some .int))
def mG_come : gh_M := (⟨"RatchetGroup", "come", "(I)I"⟩, prog_1_method_7_code, 4, (some .int))
def mB_follow : gh_M := (⟨"RatchetGroup$Member", "follow", "(LRatchetGroup$Epoch;)V"⟩, prog_4_method_6_code, 4, none)
def mB_canOpen : gh_M := (⟨"RatchetGroup$Member", "canOpen", "(LRatchetGroup$Epoch;I)Z"⟩, prog_4_method_7_code, 7, (some .boolean))
def mG_earliestWelcome : gh_M := (⟨"RatchetGroup", "earliestWelcome", "(I)I"⟩, prog_1_method_36_code, 5, (some .int))
def mG_joinBy : gh_M := (⟨"RatchetGroup", "joinBy", "(LRatchetGroup$Member;LRatchetGroup$KeyPackage;)V"⟩, prog_1_method_37_code, 4, none)
def mL_compromise : gh_M := (⟨"RatchetGroupLaw", "compromise", "(LRatchetGroup;I[J)I"⟩, method_9_code, 4, (some .int))
def mG_compromise : gh_M := (⟨"RatchetGroup", "compromise", "(I)I"⟩, prog_1_method_8_code, 4, (some .int))
def mR_init : gh_M := (⟨"RatchetGroupModel", "<init>", "()V"⟩, prog_9_method_1_code, 2, none)
def mR_make : gh_M := (⟨"RatchetGroupModel", "make", "(III)I"⟩, prog_9_method_4_code, 4, (some .int))
def mR_leave : gh_M := (⟨"RatchetGroupModel", "leave", "(I)V"⟩, prog_9_method_18_code, 3, none)
def mR_thrown : gh_M := (⟨"RatchetGroupModel", "thrown", "()I"⟩, prog_9_method_2_code, 1, (some .int))
def mR_offer : gh_M := (⟨"RatchetGroupModel", "offer", "(I)I"⟩, prog_9_method_40_code, 2, (some .int))
def mR_in : gh_M := (⟨"RatchetGroupModel", "in", "(II)Z"⟩, prog_9_method_3_code, 2, (some .boolean))
def mR_add : gh_M := (⟨"RatchetGroupModel", "add", "(II)I"⟩, prog_9_method_41_code, 3, (some .int))
def mR_isAsked : gh_M := (⟨"RatchetGroupModel", "isAsked", "(IZ)Z"⟩, prog_9_method_38_code, 3, (some .boolean))
def mR_isLatest : gh_M := (⟨"RatchetGroupModel", "isLatest", "(I)Z"⟩, prog_9_method_22_code, 2, (some .boolean))
def mR_propose : gh_M := (⟨"RatchetGroupModel", "propose", "(III)I"⟩, prog_9_method_39_code, 4, (some .int))
def mR_remove : gh_M := (⟨"RatchetGroupModel", "remove", "(II)I"⟩, prog_9_method_42_code, 3, (some .int))
def mR_update : gh_M := (⟨"RatchetGroupModel", "update", "(I)I"⟩, prog_9_method_43_code, 3, (some .int))
def mR_commit : gh_M := (⟨"RatchetGroupModel", "commit", "(IZ)I"⟩, prog_9_method_44_code, 3, (some .int))
def mR_change : gh_M := (⟨"RatchetGroupModel", "change", "(IZ)V"⟩, prog_9_method_37_code, 8, none)
def mR_copyTree : gh_M := (⟨"RatchetGroupModel", "copyTree", "(II)V"⟩, prog_9_method_23_code, 4, none)
def mR_width : gh_M := (⟨"RatchetGroupModel", "width", "(I)I"⟩, prog_9_method_11_code, 2, (some .int))
def mR_findRemoves : gh_M := (⟨"RatchetGroupModel", "findRemoves", "(II)V"⟩, prog_9_method_24_code, 5, none)
def mR_findUpdates : gh_M := (⟨"RatchetGroupModel", "findUpdates", "(II)V"⟩, prog_9_method_25_code, 5, none)
def mR_doRemoves : gh_M := (⟨"RatchetGroupModel", "doRemoves", "(I)V"⟩, prog_9_method_26_code, 3, none)
def mR_blank : gh_M := (⟨"RatchetGroupModel", "blank", "(II)V"⟩, prog_9_method_12_code, 3, none)
def mR_blankPath : gh_M := (⟨"RatchetGroupModel", "blankPath", "(II)V"⟩, prog_9_method_13_code, 4, none)
def mR_above : gh_M := (⟨"RatchetGroupModel", "above", "(II)I"⟩, prog_9_method_9_code, 2, (some .int))
def mR_isRightBlank : gh_M := (⟨"RatchetGroupModel", "isRightBlank", "(I)Z"⟩, prog_9_method_16_code, 4, (some .boolean))
def mR_doUpdates : gh_M := (⟨"RatchetGroupModel", "doUpdates", "(I)V"⟩, prog_9_method_27_code, 3, none)
def mR_set : gh_M := (⟨"RatchetGroupModel", "set", "(III)V"⟩, prog_9_method_14_code, 4, none)
def mR_doAdds : gh_M := (⟨"RatchetGroupModel", "doAdds", "(I)V"⟩, prog_9_method_30_code, 6, none)
def mR_mayAdd : gh_M := (⟨"RatchetGroupModel", "mayAdd", "(II)Z"⟩, prog_9_method_28_code, 4, (some .boolean))
def mR_leafOf : gh_M := (⟨"RatchetGroupModel", "leafOf", "(II)I"⟩, prog_9_method_17_code, 4, (some .int))
def mR_freeLeaf : gh_M := (⟨"RatchetGroupModel", "freeLeaf", "(I)I"⟩, prog_9_method_29_code, 3, (some .int))
def mR_renew : gh_M := (⟨"RatchetGroupModel", "renew", "(II)I"⟩, prog_9_method_31_code, 8, (some .int))
def mR_resolve : gh_M := (⟨"RatchetGroupModel", "resolve", "(II)V"⟩, prog_9_method_15_code, 7, none)
def mR_height : gh_M := (⟨"RatchetGroupModel", "height", "(I)I"⟩, prog_9_method_10_code, 2, (some .int))
def mR_of : gh_M := (⟨"RatchetGroupModel", "of", "(III)I"⟩, prog_9_method_5_code, 5, (some .int))
def mR_encrypt : gh_M := (⟨"RatchetGroupModel", "encrypt", "(III)V"⟩, prog_9_method_6_code, 4, none)
def mR_welcome : gh_M := (⟨"RatchetGroupModel", "welcome", "(II)V"⟩, prog_9_method_33_code, 5, none)
def mR_meeting : gh_M := (⟨"RatchetGroupModel", "meeting", "(II)I"⟩, prog_9_method_32_code, 4, (some .int))
def mR_advance : gh_M := (⟨"RatchetGroupModel", "advance", "(IIZ)V"⟩, prog_9_method_36_code, 4, none)
def mR_keep : gh_M := (⟨"RatchetGroupModel", "keep", "(II)V"⟩, prog_9_method_34_code, 6, none)
def mR_tell : gh_M := (⟨"RatchetGroupModel", "tell", "(III)V"⟩, prog_9_method_35_code, 6, none)
def mR_come : gh_M := (⟨"RatchetGroupModel", "come", "(I)I"⟩, prog_9_method_48_code, 4, (some .int))
def mR_nextPackage : gh_M := (⟨"RatchetGroupModel", "nextPackage", "(I)I"⟩, prog_9_method_45_code, 4, (some .int))
def mR_join : gh_M := (⟨"RatchetGroupModel", "join", "(II)V"⟩, prog_9_method_46_code, 5, none)
def mR_follow : gh_M := (⟨"RatchetGroupModel", "follow", "(I)V"⟩, prog_9_method_47_code, 6, none)
def mR_gather : gh_M := (⟨"RatchetGroupModel", "gather", "(I)V"⟩, prog_9_method_20_code, 3, none)
def mR_hold : gh_M := (⟨"RatchetGroupModel", "hold", "(I)V"⟩, prog_9_method_19_code, 3, none)
def mR_isHeld : gh_M := (⟨"RatchetGroupModel", "isHeld", "(I)Z"⟩, prog_9_method_21_code, 3, (some .boolean))
def mR_compromise : gh_M := (⟨"RatchetGroupModel", "compromise", "(I)I"⟩, prog_9_method_49_code, 3, (some .int))
def mR_member : gh_M := (⟨"RatchetGroupModel", "member", "(II)I"⟩, prog_9_method_50_code, 3, (some .int))
def mR_holds : gh_M := (⟨"RatchetGroupModel", "holds", "(II)Z"⟩, prog_9_method_51_code, 4, (some .boolean))
def mR_has : gh_M := (⟨"RatchetGroupModel", "has", "(I)Z"⟩, prog_9_method_52_code, 2, (some .boolean))
def mR_node : gh_M := (⟨"RatchetGroupModel", "node", "(III)I"⟩, prog_9_method_53_code, 5, (some .int))
def mR_epoch : gh_M := (⟨"RatchetGroupModel", "epoch", "(II)I"⟩, prog_9_method_54_code, 3, (some .int))
def mR_epochs : gh_M := (⟨"RatchetGroupModel", "epochs", "()I"⟩, prog_9_method_55_code, 1, (some .int))
def mR_waiting : gh_M := (⟨"RatchetGroupModel", "waiting", "()I"⟩, prog_9_method_56_code, 1, (some .int))
def mR_isKnown : gh_M := (⟨"RatchetGroupModel", "isKnown", "(I)Z"⟩, prog_9_method_57_code, 2, (some .boolean))
def mR_intrude : gh_M := (⟨"RatchetGroupModel", "intrude", "()V"⟩, prog_9_method_8_code, 3, none)
def mR_follows : gh_M := (⟨"RatchetGroupModel", "follows", "(I)Z"⟩, prog_9_method_7_code, 2, (some .boolean))
def mR_isOpen : gh_M := (⟨"RatchetGroupModel", "isOpen", "(II)Z"⟩, prog_9_method_58_code, 3, (some .boolean))
def mR_known : gh_M := (⟨"RatchetGroupModel", "known", "()I"⟩, prog_9_method_59_code, 3, (some .int))
-- words of the methods
theorem wG_init : gh_MW mG_init 0 := ⟨(gh_in 82 (by decide +kernel) rfl), (gh_in 61 (by decide +kernel) rfl), by decide +kernel, by decide +kernel, by decide +kernel⟩
theorem iG_init : Cond.instanceMethod mG_init.1 ∈ gh_T := (gh_in 81 (by decide +kernel) rfl)
theorem wS_init : gh_MW mS_init 0 := ⟨(gh_in 90 (by decide +kernel) rfl), (gh_in 62 (by decide +kernel) rfl), by decide +kernel, by decide +kernel, by decide +kernel⟩
theorem iS_init : Cond.instanceMethod mS_init.1 ∈ gh_T := (gh_in 89 (by decide +kernel) rfl)
theorem wB_init : gh_MW mB_init 0 := ⟨(gh_in 124 (by decide +kernel) rfl), (gh_in 63 (by decide +kernel) rfl), by decide +kernel, by decide +kernel, by decide +kernel⟩
theorem iB_init : Cond.instanceMethod mB_init.1 ∈ gh_T := (gh_in 123 (by decide +kernel) rfl)
theorem wA_fill : gh_MW mA_fill 2 := ⟨(gh_in 128 (by decide +kernel) rfl), (gh_in 64 (by decide +kernel) rfl), by decide +kernel, by decide +kernel, by decide +kernel⟩
theorem sA_fill : Cond.static mA_fill.1 ∈ gh_T := (gh_in 127 (by decide +kernel) rfl)
theorem wT_init0 : gh_MW mT_init0 0 := ⟨(gh_in 161 (by decide +kernel) rfl), (gh_in 66 (by decide +kernel) rfl), by decide +kernel, by decide +kernel, by decide +kernel⟩
theorem iT_init0 : Cond.instanceMethod mT_init0.1 ∈ gh_T := (gh_in 160 (by decide +kernel) rfl)
theorem wE_init : gh_MW mE_init 3 := ⟨(gh_in 181 (by decide +kernel) rfl), (gh_in 65 (by decide +kernel) rfl), by decide +kernel, by decide +kernel, by decide +kernel⟩
theorem iE_init : Cond.instanceMethod mE_init.1 ∈ gh_T := (gh_in 180 (by decide +kernel) rfl)
theorem wS_fresh : gh_MW mS_fresh 0 := ⟨(gh_in 226 (by decide +kernel) rfl), (gh_in 62 (by decide +kernel) rfl), by decide +kernel, by decide +kernel, by decide +kernel⟩
theorem vS_fresh : Cond.instanceMethod mS_fresh.1 ∈ gh_T ∧ Cond.selects "RatchetGroup$Secrets" mS_fresh.1 mS_fresh.1 ∈ gh_T := ⟨(gh_in 224 (by decide +kernel) rfl), (gh_in 225 (by decide +kernel) rfl)⟩
theorem wA_copyOf0 : gh_MW mA_copyOf0 2 := ⟨(gh_in 229 (by decide +kernel) rfl), (gh_in 64 (by decide +kernel) rfl), by decide +kernel, by decide +kernel, by decide +kernel⟩
theorem sA_copyOf0 : Cond.static mA_copyOf0.1 ∈ gh_T := (gh_in 228 (by decide +kernel) rfl)
theorem wH_min : gh_MW mH_min 2 := ⟨(gh_in 239 (by decide +kernel) rfl), (gh_in 67 (by decide +kernel) rfl), by decide +kernel, by decide +kernel, by decide +kernel⟩
theorem sH_min : Cond.static mH_min.1 ∈ gh_T := (gh_in 238 (by decide +kernel) rfl)
theorem wT_give : gh_MW mT_give 3 := ⟨(gh_in 246 (by decide +kernel) rfl), (gh_in 66 (by decide +kernel) rfl), by decide +kernel, by decide +kernel, by decide +kernel⟩
theorem vT_give : Cond.instanceMethod mT_give.1 ∈ gh_T ∧ Cond.selects "RatchetGroup$Tree" mT_give.1 mT_give.1 ∈ gh_T := ⟨(gh_in 244 (by decide +kernel) rfl), (gh_in 245 (by decide +kernel) rfl)⟩
theorem wT_isThere : gh_MW mT_isThere 1 := ⟨(gh_in 250 (by decide +kernel) rfl), (gh_in 66 (by decide +kernel) rfl), by decide +kernel, by decide +kernel, by decide +kernel⟩
theorem vT_isThere : Cond.instanceMethod mT_isThere.1 ∈ gh_T ∧ Cond.selects "RatchetGroup$Tree" mT_isThere.1 mT_isThere.1 ∈ gh_T := ⟨(gh_in 248 (by decide +kernel) rfl), (gh_in 249 (by decide +kernel) rfl)⟩
theorem wB_enter : gh_MW mB_enter 2 := ⟨(gh_in 254 (by decide +kernel) rfl), (gh_in 63 (by decide +kernel) rfl), by decide +kernel, by decide +kernel, by decide +kernel⟩
theorem vB_enter : Cond.instanceMethod mB_enter.1 ∈ gh_T ∧ Cond.selects "RatchetGroup$Member" mB_enter.1 mB_enter.1 ∈ gh_T := ⟨(gh_in 252 (by decide +kernel) rfl), (gh_in 253 (by decide +kernel) rfl)⟩
theorem wB_leave : gh_MW mB_leave 0 := ⟨(gh_in 258 (by decide +kernel) rfl), (gh_in 63 (by decide +kernel) rfl), by decide +kernel, by decide +kernel, by decide +kernel⟩
theorem vB_leave : Cond.instanceMethod mB_leave.1 ∈ gh_T ∧ Cond.selects "RatchetGroup$Member" mB_leave.1 mB_leave.1 ∈ gh_T := ⟨(gh_in 256 (by decide +kernel) rfl), (gh_in 257 (by decide +kernel) rfl)⟩
theorem wG_leafNode : gh_MW mG_leafNode 1 := ⟨(gh_in 261 (by decide +kernel) rfl), (gh_in 61 (by decide +kernel) rfl), by decide +kernel, by decide +kernel, by decide +kernel⟩
theorem sG_leafNode : Cond.static mG_leafNode.1 ∈ gh_T := (gh_in 260 (by decide +kernel) rfl)
theorem wT_keyOf : gh_MW mT_keyOf 1 := ⟨(gh_in 265 (by decide +kernel) rfl), (gh_in 66 (by decide +kernel) rfl), by decide +kernel, by decide +kernel, by decide +kernel⟩
theorem vT_keyOf : Cond.instanceMethod mT_keyOf.1 ∈ gh_T ∧ Cond.selects "RatchetGroup$Tree" mT_keyOf.1 mT_keyOf.1 ∈ gh_T := ⟨(gh_in 263 (by decide +kernel) rfl), (gh_in 264 (by decide +kernel) rfl)⟩
theorem wG_member : gh_MW mG_member 2 := ⟨(gh_in 300 (by decide +kernel) rfl), (gh_in 61 (by decide +kernel) rfl), by decide +kernel, by decide +kernel, by decide +kernel⟩
theorem vG_member : Cond.instanceMethod mG_member.1 ∈ gh_T ∧ Cond.selects "RatchetGroup" mG_member.1 mG_member.1 ∈ gh_T := ⟨(gh_in 298 (by decide +kernel) rfl), (gh_in 299 (by decide +kernel) rfl)⟩
theorem wG_isMember : gh_MW mG_isMember 1 := ⟨(gh_in 303 (by decide +kernel) rfl), (gh_in 61 (by decide +kernel) rfl), by decide +kernel, by decide +kernel, by decide +kernel⟩
theorem sG_isMember : Cond.static mG_isMember.1 ∈ gh_T := (gh_in 302 (by decide +kernel) rfl)
theorem wG_gather : gh_MW mG_gather 1 := ⟨(gh_in 307 (by decide +kernel) rfl), (gh_in 61 (by decide +kernel) rfl), by decide +kernel, by decide +kernel, by decide +kernel⟩
theorem vG_gather : Cond.instanceMethod mG_gather.1 ∈ gh_T ∧ Cond.selects "RatchetGroup" mG_gather.1 mG_gather.1 ∈ gh_T := ⟨(gh_in 306 (by decide +kernel) rfl), gh_in 0 (by decide +kernel) rfl⟩
theorem wB_gatherInto : gh_MW mB_gatherInto 1 := ⟨(gh_in 311 (by decide +kernel) rfl), (gh_in 63 (by decide +kernel) rfl), by decide +kernel, by decide +kernel, by decide +kernel⟩
theorem vB_gatherInto : Cond.instanceMethod mB_gatherInto.1 ∈ gh_T ∧ Cond.selects "RatchetGroup$Member" mB_gatherInto.1 mB_gatherInto.1 ∈ gh_T := ⟨(gh_in 309 (by decide +kernel) rfl), (gh_in 310 (by decide +kernel) rfl)⟩
theorem wG_holds : gh_MW mG_holds 2 := ⟨(gh_in 315 (by decide +kernel) rfl), (gh_in 61 (by decide +kernel) rfl), by decide +kernel, by decide +kernel, by decide +kernel⟩
theorem vG_holds : Cond.instanceMethod mG_holds.1 ∈ gh_T ∧ Cond.selects "RatchetGroup" mG_holds.1 mG_holds.1 ∈ gh_T := ⟨(gh_in 313 (by decide +kernel) rfl), (gh_in 314 (by decide +kernel) rfl)⟩
theorem wG_isEpoch : gh_MW mG_isEpoch 1 := ⟨(gh_in 319 (by decide +kernel) rfl), (gh_in 61 (by decide +kernel) rfl), by decide +kernel, by decide +kernel, by decide +kernel⟩
theorem vG_isEpoch : Cond.instanceMethod mG_isEpoch.1 ∈ gh_T ∧ Cond.selects "RatchetGroup" mG_isEpoch.1 mG_isEpoch.1 ∈ gh_T := ⟨(gh_in 318 (by decide +kernel) rfl), gh_in 1 (by decide +kernel) rfl⟩
theorem wG_has : gh_MW mG_has 1 := ⟨(gh_in 324 (by decide +kernel) rfl), (gh_in 61 (by decide +kernel) rfl), by decide +kernel, by decide +kernel, by decide +kernel⟩
theorem vG_has : Cond.instanceMethod mG_has.1 ∈ gh_T ∧ Cond.selects "RatchetGroup" mG_has.1 mG_has.1 ∈ gh_T := ⟨(gh_in 322 (by decide +kernel) rfl), (gh_in 323 (by decide +kernel) rfl)⟩
theorem wG_node : gh_MW mG_node 3 := ⟨(gh_in 328 (by decide +kernel) rfl), (gh_in 61 (by decide +kernel) rfl), by decide +kernel, by decide +kernel, by decide +kernel⟩
theorem vG_node : Cond.instanceMethod mG_node.1 ∈ gh_T ∧ Cond.selects "RatchetGroup" mG_node.1 mG_node.1 ∈ gh_T := ⟨(gh_in 326 (by decide +kernel) rfl), (gh_in 327 (by decide +kernel) rfl)⟩
theorem wT_unmergedAt : gh_MW mT_unmergedAt 1 := ⟨(gh_in 333 (by decide +kernel) rfl), (gh_in 66 (by decide +kernel) rfl), by decide +kernel, by decide +kernel, by decide +kernel⟩
theorem vT_unmergedAt : Cond.instanceMethod mT_unmergedAt.1 ∈ gh_T ∧ Cond.selects "RatchetGroup$Tree" mT_unmergedAt.1 mT_unmergedAt.1 ∈ gh_T := ⟨(gh_in 331 (by decide +kernel) rfl), (gh_in 332 (by decide +kernel) rfl)⟩
theorem wT_bornAt : gh_MW mT_bornAt 1 := ⟨(gh_in 337 (by decide +kernel) rfl), (gh_in 66 (by decide +kernel) rfl), by decide +kernel, by decide +kernel, by decide +kernel⟩
theorem vT_bornAt : Cond.instanceMethod mT_bornAt.1 ∈ gh_T ∧ Cond.selects "RatchetGroup$Tree" mT_bornAt.1 mT_bornAt.1 ∈ gh_T := ⟨(gh_in 335 (by decide +kernel) rfl), (gh_in 336 (by decide +kernel) rfl)⟩
theorem wG_heightOf : gh_MW mG_heightOf 1 := ⟨(gh_in 340 (by decide +kernel) rfl), (gh_in 61 (by decide +kernel) rfl), by decide +kernel, by decide +kernel, by decide +kernel⟩
theorem sG_heightOf : Cond.static mG_heightOf.1 ∈ gh_T := (gh_in 339 (by decide +kernel) rfl)
theorem wI_bitCount : gh_MW mI_bitCount 1 := ⟨(gh_in 343 (by decide +kernel) rfl), (gh_in 77 (by decide +kernel) rfl), by decide +kernel, by decide +kernel, by decide +kernel⟩
theorem sI_bitCount : Cond.static mI_bitCount.1 ∈ gh_T := (gh_in 342 (by decide +kernel) rfl)
theorem wT_resolution : gh_MW mT_resolution 2 := ⟨(gh_in 350 (by decide +kernel) rfl), (gh_in 66 (by decide +kernel) rfl), by decide +kernel, by decide +kernel, by decide +kernel⟩
theorem vT_resolution : Cond.instanceMethod mT_resolution.1 ∈ gh_T ∧ Cond.selects "RatchetGroup$Tree" mT_resolution.1 mT_resolution.1 ∈ gh_T := ⟨(gh_in 348 (by decide +kernel) rfl), (gh_in 349 (by decide +kernel) rfl)⟩
theorem wG_bit : gh_MW mG_bit 1 := ⟨(gh_in 353 (by decide +kernel) rfl), (gh_in 61 (by decide +kernel) rfl), by decide +kernel, by decide +kernel, by decide +kernel⟩
theorem sG_bit : Cond.static mG_bit.1 ∈ gh_T := (gh_in 352 (by decide +kernel) rfl)
theorem wG_leafNodes : gh_MW mG_leafNodes 1 := ⟨(gh_in 356 (by decide +kernel) rfl), (gh_in 61 (by decide +kernel) rfl), by decide +kernel, by decide +kernel, by decide +kernel⟩
theorem sG_leafNodes : Cond.static mG_leafNodes.1 ∈ gh_T := (gh_in 355 (by decide +kernel) rfl)
theorem wG_epoch : gh_MW mG_epoch 2 := ⟨(gh_in 363 (by decide +kernel) rfl), (gh_in 61 (by decide +kernel) rfl), by decide +kernel, by decide +kernel, by decide +kernel⟩
theorem vG_epoch : Cond.instanceMethod mG_epoch.1 ∈ gh_T ∧ Cond.selects "RatchetGroup" mG_epoch.1 mG_epoch.1 ∈ gh_T := ⟨(gh_in 361 (by decide +kernel) rfl), (gh_in 362 (by decide +kernel) rfl)⟩
theorem wG_epochs : gh_MW mG_epochs 0 := ⟨(gh_in 367 (by decide +kernel) rfl), (gh_in 61 (by decide +kernel) rfl), by decide +kernel, by decide +kernel, by decide +kernel⟩
theorem vG_epochs : Cond.instanceMethod mG_epochs.1 ∈ gh_T ∧ Cond.selects "RatchetGroup" mG_epochs.1 mG_epochs.1 ∈ gh_T := ⟨(gh_in 365 (by decide +kernel) rfl), (gh_in 366 (by decide +kernel) rfl)⟩
theorem wG_waiting : gh_MW mG_waiting 0 := ⟨(gh_in 371 (by decide +kernel) rfl), (gh_in 61 (by decide +kernel) rfl), by decide +kernel, by decide +kernel, by decide +kernel⟩
theorem vG_waiting : Cond.instanceMethod mG_waiting.1 ∈ gh_T ∧ Cond.selects "RatchetGroup" mG_waiting.1 mG_waiting.1 ∈ gh_T := ⟨(gh_in 369 (by decide +kernel) rfl), (gh_in 370 (by decide +kernel) rfl)⟩
theorem wG_isKnown : gh_MW mG_isKnown 1 := ⟨(gh_in 375 (by decide +kernel) rfl), (gh_in 61 (by decide +kernel) rfl), by decide +kernel, by decide +kernel, by decide +kernel⟩
theorem vG_isKnown : Cond.instanceMethod mG_isKnown.1 ∈ gh_T ∧ Cond.selects "RatchetGroup" mG_isKnown.1 mG_isKnown.1 ∈ gh_T := ⟨(gh_in 373 (by decide +kernel) rfl), (gh_in 374 (by decide +kernel) rfl)⟩
theorem wS_isOut : gh_MW mS_isOut 1 := ⟨(gh_in 379 (by decide +kernel) rfl), (gh_in 62 (by decide +kernel) rfl), by decide +kernel, by decide +kernel, by decide +kernel⟩
theorem vS_isOut : Cond.instanceMethod mS_isOut.1 ∈ gh_T ∧ Cond.selects "RatchetGroup$Secrets" mS_isOut.1 mS_isOut.1 ∈ gh_T := ⟨(gh_in 377 (by decide +kernel) rfl), (gh_in 378 (by decide +kernel) rfl)⟩
theorem wG_isOpen : gh_MW mG_isOpen 2 := ⟨(gh_in 383 (by decide +kernel) rfl), (gh_in 61 (by decide +kernel) rfl), by decide +kernel, by decide +kernel, by decide +kernel⟩
theorem vG_isOpen : Cond.instanceMethod mG_isOpen.1 ∈ gh_T ∧ Cond.selects "RatchetGroup" mG_isOpen.1 mG_isOpen.1 ∈ gh_T := ⟨(gh_in 381 (by decide +kernel) rfl), (gh_in 382 (by decide +kernel) rfl)⟩
theorem wG_known : gh_MW mG_known 0 := ⟨(gh_in 387 (by decide +kernel) rfl), (gh_in 61 (by decide +kernel) rfl), by decide +kernel, by decide +kernel, by decide +kernel⟩
theorem vG_known : Cond.instanceMethod mG_known.1 ∈ gh_T ∧ Cond.selects "RatchetGroup" mG_known.1 mG_known.1 ∈ gh_T := ⟨(gh_in 385 (by decide +kernel) rfl), (gh_in 386 (by decide +kernel) rfl)⟩
theorem wG_offer : gh_MW mG_offer 1 := ⟨(gh_in 396 (by decide +kernel) rfl), (gh_in 61 (by decide +kernel) rfl), by decide +kernel, by decide +kernel, by decide +kernel⟩
theorem vG_offer : Cond.instanceMethod mG_offer.1 ∈ gh_T ∧ Cond.selects "RatchetGroup" mG_offer.1 mG_offer.1 ∈ gh_T := ⟨(gh_in 394 (by decide +kernel) rfl), (gh_in 395 (by decide +kernel) rfl)⟩
theorem wK_init : gh_MW mK_init 3 := ⟨(gh_in 477 (by decide +kernel) rfl), (gh_in 75 (by decide +kernel) rfl), by decide +kernel, by decide +kernel, by decide +kernel⟩
theorem iK_init : Cond.instanceMethod mK_init.1 ∈ gh_T := (gh_in 476 (by decide +kernel) rfl)
theorem wG_add : gh_MW mG_add 2 := ⟨(gh_in 509 (by decide +kernel) rfl), (gh_in 61 (by decide +kernel) rfl), by decide +kernel, by decide +kernel, by decide +kernel⟩
theorem vG_add : Cond.instanceMethod mG_add.1 ∈ gh_T ∧ Cond.selects "RatchetGroup" mG_add.1 mG_add.1 ∈ gh_T := ⟨(gh_in 507 (by decide +kernel) rfl), (gh_in 508 (by decide +kernel) rfl)⟩
theorem wG_mayPropose : gh_MW mG_mayPropose 1 := ⟨(gh_in 513 (by decide +kernel) rfl), (gh_in 61 (by decide +kernel) rfl), by decide +kernel, by decide +kernel, by decide +kernel⟩
theorem vG_mayPropose : Cond.instanceMethod mG_mayPropose.1 ∈ gh_T ∧ Cond.selects "RatchetGroup" mG_mayPropose.1 mG_mayPropose.1 ∈ gh_T := ⟨(gh_in 512 (by decide +kernel) rfl), gh_in 3 (by decide +kernel) rfl⟩
theorem wG_isInLatest : gh_MW mG_isInLatest 1 := ⟨(gh_in 517 (by decide +kernel) rfl), (gh_in 61 (by decide +kernel) rfl), by decide +kernel, by decide +kernel, by decide +kernel⟩
theorem vG_isInLatest : Cond.instanceMethod mG_isInLatest.1 ∈ gh_T ∧ Cond.selects "RatchetGroup" mG_isInLatest.1 mG_isInLatest.1 ∈ gh_T := ⟨(gh_in 516 (by decide +kernel) rfl), gh_in 4 (by decide +kernel) rfl⟩
theorem wP_init : gh_MW mP_init 3 := ⟨(gh_in 521 (by decide +kernel) rfl), (gh_in 76 (by decide +kernel) rfl), by decide +kernel, by decide +kernel, by decide +kernel⟩
theorem iP_init : Cond.instanceMethod mP_init.1 ∈ gh_T := (gh_in 520 (by decide +kernel) rfl)
theorem wG_propose : gh_MW mG_propose 1 := ⟨(gh_in 539 (by decide +kernel) rfl), (gh_in 61 (by decide +kernel) rfl), by decide +kernel, by decide +kernel, by decide +kernel⟩
theorem vG_propose : Cond.instanceMethod mG_propose.1 ∈ gh_T ∧ Cond.selects "RatchetGroup" mG_propose.1 mG_propose.1 ∈ gh_T := ⟨(gh_in 538 (by decide +kernel) rfl), gh_in 5 (by decide +kernel) rfl⟩
theorem wG_remove : gh_MW mG_remove 2 := ⟨(gh_in 546 (by decide +kernel) rfl), (gh_in 61 (by decide +kernel) rfl), by decide +kernel, by decide +kernel, by decide +kernel⟩
theorem vG_remove : Cond.instanceMethod mG_remove.1 ∈ gh_T ∧ Cond.selects "RatchetGroup" mG_remove.1 mG_remove.1 ∈ gh_T := ⟨(gh_in 544 (by decide +kernel) rfl), (gh_in 545 (by decide +kernel) rfl)⟩
theorem wG_update : gh_MW mG_update 1 := ⟨(gh_in 553 (by decide +kernel) rfl), (gh_in 61 (by decide +kernel) rfl), by decide +kernel, by decide +kernel, by decide +kernel⟩
theorem vG_update : Cond.instanceMethod mG_update.1 ∈ gh_T ∧ Cond.selects "RatchetGroup" mG_update.1 mG_update.1 ∈ gh_T := ⟨(gh_in 551 (by decide +kernel) rfl), (gh_in 552 (by decide +kernel) rfl)⟩
theorem wB_keepUpdate : gh_MW mB_keepUpdate 1 := ⟨(gh_in 557 (by decide +kernel) rfl), (gh_in 63 (by decide +kernel) rfl), by decide +kernel, by decide +kernel, by decide +kernel⟩
theorem vB_keepUpdate : Cond.instanceMethod mB_keepUpdate.1 ∈ gh_T ∧ Cond.selects "RatchetGroup$Member" mB_keepUpdate.1 mB_keepUpdate.1 ∈ gh_T := ⟨(gh_in 555 (by decide +kernel) rfl), (gh_in 556 (by decide +kernel) rfl)⟩
theorem wG_commit : gh_MW mG_commit 2 := ⟨(gh_in 564 (by decide +kernel) rfl), (gh_in 61 (by decide +kernel) rfl), by decide +kernel, by decide +kernel, by decide +kernel⟩
theorem vG_commit : Cond.instanceMethod mG_commit.1 ∈ gh_T ∧ Cond.selects "RatchetGroup" mG_commit.1 mG_commit.1 ∈ gh_T := ⟨(gh_in 562 (by decide +kernel) rfl), (gh_in 563 (by decide +kernel) rfl)⟩
theorem wT_init1 : gh_MW mT_init1 1 := ⟨(gh_in 567 (by decide +kernel) rfl), (gh_in 66 (by decide +kernel) rfl), by decide +kernel, by decide +kernel, by decide +kernel⟩
theorem iT_init1 : Cond.instanceMethod mT_init1.1 ∈ gh_T := (gh_in 566 (by decide +kernel) rfl)
theorem wA_copyOf1 : gh_MW mA_copyOf1 2 := ⟨(gh_in 570 (by decide +kernel) rfl), (gh_in 64 (by decide +kernel) rfl), by decide +kernel, by decide +kernel, by decide +kernel⟩
theorem sA_copyOf1 : Cond.static mA_copyOf1.1 ∈ gh_T := (gh_in 569 (by decide +kernel) rfl)
theorem wS_ruleCount : gh_MW mS_ruleCount 0 := ⟨(gh_in 579 (by decide +kernel) rfl), (gh_in 62 (by decide +kernel) rfl), by decide +kernel, by decide +kernel, by decide +kernel⟩
theorem vS_ruleCount : Cond.instanceMethod mS_ruleCount.1 ∈ gh_T ∧ Cond.selects "RatchetGroup$Secrets" mS_ruleCount.1 mS_ruleCount.1 ∈ gh_T := ⟨(gh_in 577 (by decide +kernel) rfl), (gh_in 578 (by decide +kernel) rfl)⟩
theorem wG_doRemoves : gh_MW mG_doRemoves 1 := ⟨(gh_in 583 (by decide +kernel) rfl), (gh_in 61 (by decide +kernel) rfl), by decide +kernel, by decide +kernel, by decide +kernel⟩
theorem vG_doRemoves : Cond.instanceMethod mG_doRemoves.1 ∈ gh_T ∧ Cond.selects "RatchetGroup" mG_doRemoves.1 mG_doRemoves.1 ∈ gh_T := ⟨(gh_in 582 (by decide +kernel) rfl), gh_in 6 (by decide +kernel) rfl⟩
theorem wT_blankLeafAndPath : gh_MW mT_blankLeafAndPath 1 := ⟨(gh_in 587 (by decide +kernel) rfl), (gh_in 66 (by decide +kernel) rfl), by decide +kernel, by decide +kernel, by decide +kernel⟩
theorem vT_blankLeafAndPath : Cond.instanceMethod mT_blankLeafAndPath.1 ∈ gh_T ∧ Cond.selects "RatchetGroup$Tree" mT_blankLeafAndPath.1 mT_blankLeafAndPath.1 ∈ gh_T := ⟨(gh_in 585 (by decide +kernel) rfl), (gh_in 586 (by decide +kernel) rfl)⟩
theorem wG_pathNode : gh_MW mG_pathNode 2 := ⟨(gh_in 590 (by decide +kernel) rfl), (gh_in 61 (by decide +kernel) rfl), by decide +kernel, by decide +kernel, by decide +kernel⟩
theorem sG_pathNode : Cond.static mG_pathNode.1 ∈ gh_T := (gh_in 589 (by decide +kernel) rfl)
theorem wT_blank : gh_MW mT_blank 1 := ⟨(gh_in 594 (by decide +kernel) rfl), (gh_in 66 (by decide +kernel) rfl), by decide +kernel, by decide +kernel, by decide +kernel⟩
theorem vT_blank : Cond.instanceMethod mT_blank.1 ∈ gh_T ∧ Cond.selects "RatchetGroup$Tree" mT_blank.1 mT_blank.1 ∈ gh_T := ⟨(gh_in 592 (by decide +kernel) rfl), (gh_in 593 (by decide +kernel) rfl)⟩
theorem wG_dismiss : gh_MW mG_dismiss 1 := ⟨(gh_in 599 (by decide +kernel) rfl), (gh_in 61 (by decide +kernel) rfl), by decide +kernel, by decide +kernel, by decide +kernel⟩
theorem vG_dismiss : Cond.instanceMethod mG_dismiss.1 ∈ gh_T ∧ Cond.selects "RatchetGroup" mG_dismiss.1 mG_dismiss.1 ∈ gh_T := ⟨(gh_in 598 (by decide +kernel) rfl), gh_in 7 (by decide +kernel) rfl⟩
theorem wT_shrink : gh_MW mT_shrink 0 := ⟨(gh_in 604 (by decide +kernel) rfl), (gh_in 66 (by decide +kernel) rfl), by decide +kernel, by decide +kernel, by decide +kernel⟩
theorem vT_shrink : Cond.instanceMethod mT_shrink.1 ∈ gh_T ∧ Cond.selects "RatchetGroup$Tree" mT_shrink.1 mT_shrink.1 ∈ gh_T := ⟨(gh_in 602 (by decide +kernel) rfl), (gh_in 603 (by decide +kernel) rfl)⟩
theorem wT_firstLeafWithKey : gh_MW mT_firstLeafWithKey 1 := ⟨(gh_in 608 (by decide +kernel) rfl), (gh_in 66 (by decide +kernel) rfl), by decide +kernel, by decide +kernel, by decide +kernel⟩
theorem vT_firstLeafWithKey : Cond.instanceMethod mT_firstLeafWithKey.1 ∈ gh_T ∧ Cond.selects "RatchetGroup$Tree" mT_firstLeafWithKey.1 mT_firstLeafWithKey.1 ∈ gh_T := ⟨(gh_in 607 (by decide +kernel) rfl), gh_in 8 (by decide +kernel) rfl⟩
theorem wG_doUpdates : gh_MW mG_doUpdates 1 := ⟨(gh_in 614 (by decide +kernel) rfl), (gh_in 61 (by decide +kernel) rfl), by decide +kernel, by decide +kernel, by decide +kernel⟩
theorem vG_doUpdates : Cond.instanceMethod mG_doUpdates.1 ∈ gh_T ∧ Cond.selects "RatchetGroup" mG_doUpdates.1 mG_doUpdates.1 ∈ gh_T := ⟨(gh_in 613 (by decide +kernel) rfl), gh_in 9 (by decide +kernel) rfl⟩
theorem wG_doAdds : gh_MW mG_doAdds 1 := ⟨(gh_in 618 (by decide +kernel) rfl), (gh_in 61 (by decide +kernel) rfl), by decide +kernel, by decide +kernel, by decide +kernel⟩
theorem vG_doAdds : Cond.instanceMethod mG_doAdds.1 ∈ gh_T ∧ Cond.selects "RatchetGroup" mG_doAdds.1 mG_doAdds.1 ∈ gh_T := ⟨(gh_in 617 (by decide +kernel) rfl), gh_in 10 (by decide +kernel) rfl⟩
theorem wG_mayBeAdded : gh_MW mG_mayBeAdded 1 := ⟨(gh_in 622 (by decide +kernel) rfl), (gh_in 61 (by decide +kernel) rfl), by decide +kernel, by decide +kernel, by decide +kernel⟩
theorem vG_mayBeAdded : Cond.instanceMethod mG_mayBeAdded.1 ∈ gh_T ∧ Cond.selects "RatchetGroup" mG_mayBeAdded.1 mG_mayBeAdded.1 ∈ gh_T := ⟨(gh_in 621 (by decide +kernel) rfl), gh_in 11 (by decide +kernel) rfl⟩
theorem wG_hasLeaf : gh_MW mG_hasLeaf 1 := ⟨(gh_in 626 (by decide +kernel) rfl), (gh_in 61 (by decide +kernel) rfl), by decide +kernel, by decide +kernel, by decide +kernel⟩
theorem vG_hasLeaf : Cond.instanceMethod mG_hasLeaf.1 ∈ gh_T ∧ Cond.selects "RatchetGroup" mG_hasLeaf.1 mG_hasLeaf.1 ∈ gh_T := ⟨(gh_in 625 (by decide +kernel) rfl), gh_in 12 (by decide +kernel) rfl⟩
theorem wG_addBy : gh_MW mG_addBy 2 := ⟨(gh_in 630 (by decide +kernel) rfl), (gh_in 61 (by decide +kernel) rfl), by decide +kernel, by decide +kernel, by decide +kernel⟩
theorem vG_addBy : Cond.instanceMethod mG_addBy.1 ∈ gh_T ∧ Cond.selects "RatchetGroup" mG_addBy.1 mG_addBy.1 ∈ gh_T := ⟨(gh_in 629 (by decide +kernel) rfl), gh_in 13 (by decide +kernel) rfl⟩
theorem wT_makeRoom : gh_MW mT_makeRoom 0 := ⟨(gh_in 634 (by decide +kernel) rfl), (gh_in 66 (by decide +kernel) rfl), by decide +kernel, by decide +kernel, by decide +kernel⟩
theorem vT_makeRoom : Cond.instanceMethod mT_makeRoom.1 ∈ gh_T ∧ Cond.selects "RatchetGroup$Tree" mT_makeRoom.1 mT_makeRoom.1 ∈ gh_T := ⟨(gh_in 632 (by decide +kernel) rfl), (gh_in 633 (by decide +kernel) rfl)⟩
theorem wT_markUnmerged : gh_MW mT_markUnmerged 1 := ⟨(gh_in 638 (by decide +kernel) rfl), (gh_in 66 (by decide +kernel) rfl), by decide +kernel, by decide +kernel, by decide +kernel⟩
theorem vT_markUnmerged : Cond.instanceMethod mT_markUnmerged.1 ∈ gh_T ∧ Cond.selects "RatchetGroup$Tree" mT_markUnmerged.1 mT_markUnmerged.1 ∈ gh_T := ⟨(gh_in 636 (by decide +kernel) rfl), (gh_in 637 (by decide +kernel) rfl)⟩
theorem wG_makePath : gh_MW mG_makePath 1 := ⟨(gh_in 642 (by decide +kernel) rfl), (gh_in 61 (by decide +kernel) rfl), by decide +kernel, by decide +kernel, by decide +kernel⟩
theorem vG_makePath : Cond.instanceMethod mG_makePath.1 ∈ gh_T ∧ Cond.selects "RatchetGroup" mG_makePath.1 mG_makePath.1 ∈ gh_T := ⟨(gh_in 641 (by decide +kernel) rfl), gh_in 14 (by decide +kernel) rfl⟩
theorem wG_sideNode : gh_MW mG_sideNode 2 := ⟨(gh_in 646 (by decide +kernel) rfl), (gh_in 61 (by decide +kernel) rfl), by decide +kernel, by decide +kernel, by decide +kernel⟩
theorem sG_sideNode : Cond.static mG_sideNode.1 ∈ gh_T := (gh_in 645 (by decide +kernel) rfl)
theorem wS_derive : gh_MW mS_derive 1 := ⟨(gh_in 651 (by decide +kernel) rfl), (gh_in 62 (by decide +kernel) rfl), by decide +kernel, by decide +kernel, by decide +kernel⟩
theorem vS_derive : Cond.instanceMethod mS_derive.1 ∈ gh_T ∧ Cond.selects "RatchetGroup$Secrets" mS_derive.1 mS_derive.1 ∈ gh_T := ⟨(gh_in 649 (by decide +kernel) rfl), (gh_in 650 (by decide +kernel) rfl)⟩
theorem wS_deriveOfTwo : gh_MW mS_deriveOfTwo 2 := ⟨(gh_in 655 (by decide +kernel) rfl), (gh_in 62 (by decide +kernel) rfl), by decide +kernel, by decide +kernel, by decide +kernel⟩
theorem vS_deriveOfTwo : Cond.instanceMethod mS_deriveOfTwo.1 ∈ gh_T ∧ Cond.selects "RatchetGroup$Secrets" mS_deriveOfTwo.1 mS_deriveOfTwo.1 ∈ gh_T := ⟨(gh_in 653 (by decide +kernel) rfl), (gh_in 654 (by decide +kernel) rfl)⟩
theorem wS_tie : gh_MW mS_tie 3 := ⟨(gh_in 660 (by decide +kernel) rfl), (gh_in 62 (by decide +kernel) rfl), by decide +kernel, by decide +kernel, by decide +kernel⟩
theorem vS_tie : Cond.instanceMethod mS_tie.1 ∈ gh_T ∧ Cond.selects "RatchetGroup$Secrets" mS_tie.1 mS_tie.1 ∈ gh_T := ⟨(gh_in 658 (by decide +kernel) rfl), (gh_in 659 (by decide +kernel) rfl)⟩
theorem wG_sendToNodes : gh_MW mG_sendToNodes 3 := ⟨(gh_in 666 (by decide +kernel) rfl), (gh_in 61 (by decide +kernel) rfl), by decide +kernel, by decide +kernel, by decide +kernel⟩
theorem vG_sendToNodes : Cond.instanceMethod mG_sendToNodes.1 ∈ gh_T ∧ Cond.selects "RatchetGroup" mG_sendToNodes.1 mG_sendToNodes.1 ∈ gh_T := ⟨(gh_in 665 (by decide +kernel) rfl), gh_in 15 (by decide +kernel) rfl⟩
theorem wG_encrypt : gh_MW mG_encrypt 3 := ⟨(gh_in 670 (by decide +kernel) rfl), (gh_in 61 (by decide +kernel) rfl), by decide +kernel, by decide +kernel, by decide +kernel⟩
theorem vG_encrypt : Cond.instanceMethod mG_encrypt.1 ∈ gh_T ∧ Cond.selects "RatchetGroup" mG_encrypt.1 mG_encrypt.1 ∈ gh_T := ⟨(gh_in 669 (by decide +kernel) rfl), gh_in 16 (by decide +kernel) rfl⟩
theorem wG_sendToAdded : gh_MW mG_sendToAdded 4 := ⟨(gh_in 675 (by decide +kernel) rfl), (gh_in 61 (by decide +kernel) rfl), by decide +kernel, by decide +kernel, by decide +kernel⟩
theorem vG_sendToAdded : Cond.instanceMethod mG_sendToAdded.1 ∈ gh_T ∧ Cond.selects "RatchetGroup" mG_sendToAdded.1 mG_sendToAdded.1 ∈ gh_T := ⟨(gh_in 674 (by decide +kernel) rfl), gh_in 17 (by decide +kernel) rfl⟩
theorem wG_openEpoch : gh_MW mG_openEpoch 3 := ⟨(gh_in 679 (by decide +kernel) rfl), (gh_in 61 (by decide +kernel) rfl), by decide +kernel, by decide +kernel, by decide +kernel⟩
theorem vG_openEpoch : Cond.instanceMethod mG_openEpoch.1 ∈ gh_T ∧ Cond.selects "RatchetGroup" mG_openEpoch.1 mG_openEpoch.1 ∈ gh_T := ⟨(gh_in 678 (by decide +kernel) rfl), gh_in 18 (by decide +kernel) rfl⟩
theorem wB_moveByCommit : gh_MW mB_moveByCommit 1 := ⟨(gh_in 684 (by decide +kernel) rfl), (gh_in 63 (by decide +kernel) rfl), by decide +kernel, by decide +kernel, by decide +kernel⟩
theorem vB_moveByCommit : Cond.instanceMethod mB_moveByCommit.1 ∈ gh_T ∧ Cond.selects "RatchetGroup$Member" mB_moveByCommit.1 mB_moveByCommit.1 ∈ gh_T := ⟨(gh_in 682 (by decide +kernel) rfl), (gh_in 683 (by decide +kernel) rfl)⟩
theorem wB_dropOldKeys : gh_MW mB_dropOldKeys 1 := ⟨(gh_in 688 (by decide +kernel) rfl), (gh_in 63 (by decide +kernel) rfl), by decide +kernel, by decide +kernel, by decide +kernel⟩
theorem vB_dropOldKeys : Cond.instanceMethod mB_dropOldKeys.1 ∈ gh_T ∧ Cond.selects "RatchetGroup$Member" mB_dropOldKeys.1 mB_dropOldKeys.1 ∈ gh_T := ⟨(gh_in 687 (by decide +kernel) rfl), gh_in 19 (by decide +kernel) rfl⟩
theorem wE_lowestCounting : gh_MW mE_lowestCounting 1 := ⟨(gh_in 693 (by decide +kernel) rfl), (gh_in 65 (by decide +kernel) rfl), by decide +kernel, by decide +kernel, by decide +kernel⟩
theorem vE_lowestCounting : Cond.instanceMethod mE_lowestCounting.1 ∈ gh_T ∧ Cond.selects "RatchetGroup$Epoch" mE_lowestCounting.1 mE_lowestCounting.1 ∈ gh_T := ⟨(gh_in 691 (by decide +kernel) rfl), (gh_in 692 (by decide +kernel) rfl)⟩
theorem wB_learnPath : gh_MW mB_learnPath 2 := ⟨(gh_in 699 (by decide +kernel) rfl), (gh_in 63 (by decide +kernel) rfl), by decide +kernel, by decide +kernel, by decide +kernel⟩
theorem vB_learnPath : Cond.instanceMethod mB_learnPath.1 ∈ gh_T ∧ Cond.selects "RatchetGroup$Member" mB_learnPath.1 mB_learnPath.1 ∈ gh_T := ⟨(gh_in 697 (by decide +kernel) rfl), (gh_in 698 (by decide +kernel) rfl)⟩
theorem wH_max : gh_MW mH_max 2 := ⟨(gh_in 702 (by decide +kernel) rfl), (gh_in 67 (by decide +kernel) rfl), by decide +kernel, by decide +kernel, by decide +kernel⟩
theorem sH_max : Cond.static mH_max.1 ∈ gh_T := (gh_in 701 (by decide +kernel) rfl)
theorem wS_spread : gh_MW mS_spread 1 := ⟨(gh_in 707 (by decide +kernel) rfl), (gh_in 62 (by decide +kernel) rfl), by decide +kernel, by decide +kernel, by decide +kernel⟩
theorem vS_spread : Cond.instanceMethod mS_spread.1 ∈ gh_T ∧ Cond.selects "RatchetGroup$Secrets" mS_spread.1 mS_spread.1 ∈ gh_T := ⟨(gh_in 705 (by decide +kernel) rfl), (gh_in 706 (by decide +kernel) rfl)⟩
theorem wS_learn : gh_MW mS_learn 1 := ⟨(gh_in 713 (by decide +kernel) rfl), (gh_in 62 (by decide +kernel) rfl), by decide +kernel, by decide +kernel, by decide +kernel⟩
theorem vS_learn : Cond.instanceMethod mS_learn.1 ∈ gh_T ∧ Cond.selects "RatchetGroup$Secrets" mS_learn.1 mS_learn.1 ∈ gh_T := ⟨(gh_in 711 (by decide +kernel) rfl), (gh_in 712 (by decide +kernel) rfl)⟩
theorem wG_come : gh_MW mG_come 1 := ⟨(gh_in 720 (by decide +kernel) rfl), (gh_in 61 (by decide +kernel) rfl), by decide +kernel, by decide +kernel, by decide +kernel⟩
theorem vG_come : Cond.instanceMethod mG_come.1 ∈ gh_T ∧ Cond.selects "RatchetGroup" mG_come.1 mG_come.1 ∈ gh_T := ⟨(gh_in 718 (by decide +kernel) rfl), (gh_in 719 (by decide +kernel) rfl)⟩
theorem wB_follow : gh_MW mB_follow 1 := ⟨(gh_in 724 (by decide +kernel) rfl), (gh_in 63 (by decide +kernel) rfl), by decide +kernel, by decide +kernel, by decide +kernel⟩
theorem vB_follow : Cond.instanceMethod mB_follow.1 ∈ gh_T ∧ Cond.selects "RatchetGroup$Member" mB_follow.1 mB_follow.1 ∈ gh_T := ⟨(gh_in 722 (by decide +kernel) rfl), (gh_in 723 (by decide +kernel) rfl)⟩
theorem wB_canOpen : gh_MW mB_canOpen 2 := ⟨(gh_in 728 (by decide +kernel) rfl), (gh_in 63 (by decide +kernel) rfl), by decide +kernel, by decide +kernel, by decide +kernel⟩
theorem vB_canOpen : Cond.instanceMethod mB_canOpen.1 ∈ gh_T ∧ Cond.selects "RatchetGroup$Member" mB_canOpen.1 mB_canOpen.1 ∈ gh_T := ⟨(gh_in 727 (by decide +kernel) rfl), gh_in 20 (by decide +kernel) rfl⟩
theorem wG_earliestWelcome : gh_MW mG_earliestWelcome 1 := ⟨(gh_in 734 (by decide +kernel) rfl), (gh_in 61 (by decide +kernel) rfl), by decide +kernel, by decide +kernel, by decide +kernel⟩
theorem vG_earliestWelcome : Cond.instanceMethod mG_earliestWelcome.1 ∈ gh_T ∧ Cond.selects "RatchetGroup" mG_earliestWelcome.1 mG_earliestWelcome.1 ∈ gh_T := ⟨(gh_in 733 (by decide +kernel) rfl), gh_in 21 (by decide +kernel) rfl⟩
theorem wG_joinBy : gh_MW mG_joinBy 2 := ⟨(gh_in 738 (by decide +kernel) rfl), (gh_in 61 (by decide +kernel) rfl), by decide +kernel, by decide +kernel, by decide +kernel⟩
theorem vG_joinBy : Cond.instanceMethod mG_joinBy.1 ∈ gh_T ∧ Cond.selects "RatchetGroup" mG_joinBy.1 mG_joinBy.1 ∈ gh_T := ⟨(gh_in 737 (by decide +kernel) rfl), gh_in 22 (by decide +kernel) rfl⟩
theorem wG_compromise : gh_MW mG_compromise 1 := ⟨(gh_in 747 (by decide +kernel) rfl), (gh_in 61 (by decide +kernel) rfl), by decide +kernel, by decide +kernel, by decide +kernel⟩
theorem vG_compromise : Cond.instanceMethod mG_compromise.1 ∈ gh_T ∧ Cond.selects "RatchetGroup" mG_compromise.1 mG_compromise.1 ∈ gh_T := ⟨(gh_in 745 (by decide +kernel) rfl), (gh_in 746 (by decide +kernel) rfl)⟩
theorem wR_init : gh_MW mR_init 0 := ⟨(gh_in 753 (by decide +kernel) rfl), (gh_in 69 (by decide +kernel) rfl), by decide +kernel, by decide +kernel, by decide +kernel⟩
theorem iR_init : Cond.instanceMethod mR_init.1 ∈ gh_T := (gh_in 752 (by decide +kernel) rfl)
theorem wR_make : gh_MW mR_make 3 := ⟨(gh_in 758 (by decide +kernel) rfl), (gh_in 69 (by decide +kernel) rfl), by decide +kernel, by decide +kernel, by decide +kernel⟩
theorem vR_make : Cond.instanceMethod mR_make.1 ∈ gh_T ∧ Cond.selects "RatchetGroupModel" mR_make.1 mR_make.1 ∈ gh_T := ⟨(gh_in 757 (by decide +kernel) rfl), gh_in 23 (by decide +kernel) rfl⟩
theorem wR_leave : gh_MW mR_leave 1 := ⟨(gh_in 762 (by decide +kernel) rfl), (gh_in 69 (by decide +kernel) rfl), by decide +kernel, by decide +kernel, by decide +kernel⟩
theorem vR_leave : Cond.instanceMethod mR_leave.1 ∈ gh_T ∧ Cond.selects "RatchetGroupModel" mR_leave.1 mR_leave.1 ∈ gh_T := ⟨(gh_in 761 (by decide +kernel) rfl), gh_in 24 (by decide +kernel) rfl⟩
theorem wR_thrown : gh_MW mR_thrown 0 := ⟨(gh_in 924 (by decide +kernel) rfl), (gh_in 69 (by decide +kernel) rfl), by decide +kernel, by decide +kernel, by decide +kernel⟩
theorem vR_thrown : Cond.instanceMethod mR_thrown.1 ∈ gh_T ∧ Cond.selects "RatchetGroupModel" mR_thrown.1 mR_thrown.1 ∈ gh_T := ⟨(gh_in 922 (by decide +kernel) rfl), (gh_in 923 (by decide +kernel) rfl)⟩
theorem wR_offer : gh_MW mR_offer 1 := ⟨(gh_in 928 (by decide +kernel) rfl), (gh_in 69 (by decide +kernel) rfl), by decide +kernel, by decide +kernel, by decide +kernel⟩
theorem vR_offer : Cond.instanceMethod mR_offer.1 ∈ gh_T ∧ Cond.selects "RatchetGroupModel" mR_offer.1 mR_offer.1 ∈ gh_T := ⟨(gh_in 926 (by decide +kernel) rfl), (gh_in 927 (by decide +kernel) rfl)⟩
theorem wR_in : gh_MW mR_in 2 := ⟨(gh_in 931 (by decide +kernel) rfl), (gh_in 69 (by decide +kernel) rfl), by decide +kernel, by decide +kernel, by decide +kernel⟩
theorem sR_in : Cond.static mR_in.1 ∈ gh_T := (gh_in 930 (by decide +kernel) rfl)
theorem wR_add : gh_MW mR_add 2 := ⟨(gh_in 935 (by decide +kernel) rfl), (gh_in 69 (by decide +kernel) rfl), by decide +kernel, by decide +kernel, by decide +kernel⟩
theorem vR_add : Cond.instanceMethod mR_add.1 ∈ gh_T ∧ Cond.selects "RatchetGroupModel" mR_add.1 mR_add.1 ∈ gh_T := ⟨(gh_in 933 (by decide +kernel) rfl), (gh_in 934 (by decide +kernel) rfl)⟩
theorem wR_isAsked : gh_MW mR_isAsked 2 := ⟨(gh_in 939 (by decide +kernel) rfl), (gh_in 69 (by decide +kernel) rfl), by decide +kernel, by decide +kernel, by decide +kernel⟩
theorem vR_isAsked : Cond.instanceMethod mR_isAsked.1 ∈ gh_T ∧ Cond.selects "RatchetGroupModel" mR_isAsked.1 mR_isAsked.1 ∈ gh_T := ⟨(gh_in 938 (by decide +kernel) rfl), gh_in 25 (by decide +kernel) rfl⟩
theorem wR_isLatest : gh_MW mR_isLatest 1 := ⟨(gh_in 943 (by decide +kernel) rfl), (gh_in 69 (by decide +kernel) rfl), by decide +kernel, by decide +kernel, by decide +kernel⟩
theorem vR_isLatest : Cond.instanceMethod mR_isLatest.1 ∈ gh_T ∧ Cond.selects "RatchetGroupModel" mR_isLatest.1 mR_isLatest.1 ∈ gh_T := ⟨(gh_in 942 (by decide +kernel) rfl), gh_in 26 (by decide +kernel) rfl⟩
theorem wR_propose : gh_MW mR_propose 3 := ⟨(gh_in 947 (by decide +kernel) rfl), (gh_in 69 (by decide +kernel) rfl), by decide +kernel, by decide +kernel, by decide +kernel⟩
theorem vR_propose : Cond.instanceMethod mR_propose.1 ∈ gh_T ∧ Cond.selects "RatchetGroupModel" mR_propose.1 mR_propose.1 ∈ gh_T := ⟨(gh_in 946 (by decide +kernel) rfl), gh_in 27 (by decide +kernel) rfl⟩
theorem wR_remove : gh_MW mR_remove 2 := ⟨(gh_in 951 (by decide +kernel) rfl), (gh_in 69 (by decide +kernel) rfl), by decide +kernel, by decide +kernel, by decide +kernel⟩
theorem vR_remove : Cond.instanceMethod mR_remove.1 ∈ gh_T ∧ Cond.selects "RatchetGroupModel" mR_remove.1 mR_remove.1 ∈ gh_T := ⟨(gh_in 949 (by decide +kernel) rfl), (gh_in 950 (by decide +kernel) rfl)⟩
theorem wR_update : gh_MW mR_update 1 := ⟨(gh_in 955 (by decide +kernel) rfl), (gh_in 69 (by decide +kernel) rfl), by decide +kernel, by decide +kernel, by decide +kernel⟩
theorem vR_update : Cond.instanceMethod mR_update.1 ∈ gh_T ∧ Cond.selects "RatchetGroupModel" mR_update.1 mR_update.1 ∈ gh_T := ⟨(gh_in 953 (by decide +kernel) rfl), (gh_in 954 (by decide +kernel) rfl)⟩
theorem wR_commit : gh_MW mR_commit 2 := ⟨(gh_in 959 (by decide +kernel) rfl), (gh_in 69 (by decide +kernel) rfl), by decide +kernel, by decide +kernel, by decide +kernel⟩
theorem vR_commit : Cond.instanceMethod mR_commit.1 ∈ gh_T ∧ Cond.selects "RatchetGroupModel" mR_commit.1 mR_commit.1 ∈ gh_T := ⟨(gh_in 957 (by decide +kernel) rfl), (gh_in 958 (by decide +kernel) rfl)⟩
theorem wR_change : gh_MW mR_change 2 := ⟨(gh_in 963 (by decide +kernel) rfl), (gh_in 69 (by decide +kernel) rfl), by decide +kernel, by decide +kernel, by decide +kernel⟩
theorem vR_change : Cond.instanceMethod mR_change.1 ∈ gh_T ∧ Cond.selects "RatchetGroupModel" mR_change.1 mR_change.1 ∈ gh_T := ⟨(gh_in 962 (by decide +kernel) rfl), gh_in 28 (by decide +kernel) rfl⟩
theorem wR_copyTree : gh_MW mR_copyTree 2 := ⟨(gh_in 967 (by decide +kernel) rfl), (gh_in 69 (by decide +kernel) rfl), by decide +kernel, by decide +kernel, by decide +kernel⟩
theorem vR_copyTree : Cond.instanceMethod mR_copyTree.1 ∈ gh_T ∧ Cond.selects "RatchetGroupModel" mR_copyTree.1 mR_copyTree.1 ∈ gh_T := ⟨(gh_in 966 (by decide +kernel) rfl), gh_in 29 (by decide +kernel) rfl⟩
theorem wR_width : gh_MW mR_width 1 := ⟨(gh_in 971 (by decide +kernel) rfl), (gh_in 69 (by decide +kernel) rfl), by decide +kernel, by decide +kernel, by decide +kernel⟩
theorem vR_width : Cond.instanceMethod mR_width.1 ∈ gh_T ∧ Cond.selects "RatchetGroupModel" mR_width.1 mR_width.1 ∈ gh_T := ⟨(gh_in 970 (by decide +kernel) rfl), gh_in 30 (by decide +kernel) rfl⟩
theorem wR_findRemoves : gh_MW mR_findRemoves 2 := ⟨(gh_in 975 (by decide +kernel) rfl), (gh_in 69 (by decide +kernel) rfl), by decide +kernel, by decide +kernel, by decide +kernel⟩
theorem vR_findRemoves : Cond.instanceMethod mR_findRemoves.1 ∈ gh_T ∧ Cond.selects "RatchetGroupModel" mR_findRemoves.1 mR_findRemoves.1 ∈ gh_T := ⟨(gh_in 974 (by decide +kernel) rfl), gh_in 31 (by decide +kernel) rfl⟩
theorem wR_findUpdates : gh_MW mR_findUpdates 2 := ⟨(gh_in 979 (by decide +kernel) rfl), (gh_in 69 (by decide +kernel) rfl), by decide +kernel, by decide +kernel, by decide +kernel⟩
theorem vR_findUpdates : Cond.instanceMethod mR_findUpdates.1 ∈ gh_T ∧ Cond.selects "RatchetGroupModel" mR_findUpdates.1 mR_findUpdates.1 ∈ gh_T := ⟨(gh_in 978 (by decide +kernel) rfl), gh_in 32 (by decide +kernel) rfl⟩
theorem wR_doRemoves : gh_MW mR_doRemoves 1 := ⟨(gh_in 983 (by decide +kernel) rfl), (gh_in 69 (by decide +kernel) rfl), by decide +kernel, by decide +kernel, by decide +kernel⟩
theorem vR_doRemoves : Cond.instanceMethod mR_doRemoves.1 ∈ gh_T ∧ Cond.selects "RatchetGroupModel" mR_doRemoves.1 mR_doRemoves.1 ∈ gh_T := ⟨(gh_in 982 (by decide +kernel) rfl), gh_in 33 (by decide +kernel) rfl⟩
theorem wR_blank : gh_MW mR_blank 2 := ⟨(gh_in 987 (by decide +kernel) rfl), (gh_in 69 (by decide +kernel) rfl), by decide +kernel, by decide +kernel, by decide +kernel⟩
theorem vR_blank : Cond.instanceMethod mR_blank.1 ∈ gh_T ∧ Cond.selects "RatchetGroupModel" mR_blank.1 mR_blank.1 ∈ gh_T := ⟨(gh_in 986 (by decide +kernel) rfl), gh_in 34 (by decide +kernel) rfl⟩
theorem wR_blankPath : gh_MW mR_blankPath 2 := ⟨(gh_in 991 (by decide +kernel) rfl), (gh_in 69 (by decide +kernel) rfl), by decide +kernel, by decide +kernel, by decide +kernel⟩
theorem vR_blankPath : Cond.instanceMethod mR_blankPath.1 ∈ gh_T ∧ Cond.selects "RatchetGroupModel" mR_blankPath.1 mR_blankPath.1 ∈ gh_T := ⟨(gh_in 990 (by decide +kernel) rfl), gh_in 35 (by decide +kernel) rfl⟩
theorem wR_above : gh_MW mR_above 2 := ⟨(gh_in 994 (by decide +kernel) rfl), (gh_in 69 (by decide +kernel) rfl), by decide +kernel, by decide +kernel, by decide +kernel⟩
theorem sR_above : Cond.static mR_above.1 ∈ gh_T := (gh_in 993 (by decide +kernel) rfl)
theorem wR_isRightBlank : gh_MW mR_isRightBlank 1 := ⟨(gh_in 998 (by decide +kernel) rfl), (gh_in 69 (by decide +kernel) rfl), by decide +kernel, by decide +kernel, by decide +kernel⟩
theorem vR_isRightBlank : Cond.instanceMethod mR_isRightBlank.1 ∈ gh_T ∧ Cond.selects "RatchetGroupModel" mR_isRightBlank.1 mR_isRightBlank.1 ∈ gh_T := ⟨(gh_in 997 (by decide +kernel) rfl), gh_in 36 (by decide +kernel) rfl⟩
theorem wR_doUpdates : gh_MW mR_doUpdates 1 := ⟨(gh_in 1002 (by decide +kernel) rfl), (gh_in 69 (by decide +kernel) rfl), by decide +kernel, by decide +kernel, by decide +kernel⟩
theorem vR_doUpdates : Cond.instanceMethod mR_doUpdates.1 ∈ gh_T ∧ Cond.selects "RatchetGroupModel" mR_doUpdates.1 mR_doUpdates.1 ∈ gh_T := ⟨(gh_in 1001 (by decide +kernel) rfl), gh_in 37 (by decide +kernel) rfl⟩
theorem wR_set : gh_MW mR_set 3 := ⟨(gh_in 1006 (by decide +kernel) rfl), (gh_in 69 (by decide +kernel) rfl), by decide +kernel, by decide +kernel, by decide +kernel⟩
theorem vR_set : Cond.instanceMethod mR_set.1 ∈ gh_T ∧ Cond.selects "RatchetGroupModel" mR_set.1 mR_set.1 ∈ gh_T := ⟨(gh_in 1005 (by decide +kernel) rfl), gh_in 38 (by decide +kernel) rfl⟩
theorem wR_doAdds : gh_MW mR_doAdds 1 := ⟨(gh_in 1010 (by decide +kernel) rfl), (gh_in 69 (by decide +kernel) rfl), by decide +kernel, by decide +kernel, by decide +kernel⟩
theorem vR_doAdds : Cond.instanceMethod mR_doAdds.1 ∈ gh_T ∧ Cond.selects "RatchetGroupModel" mR_doAdds.1 mR_doAdds.1 ∈ gh_T := ⟨(gh_in 1009 (by decide +kernel) rfl), gh_in 39 (by decide +kernel) rfl⟩
theorem wR_mayAdd : gh_MW mR_mayAdd 2 := ⟨(gh_in 1014 (by decide +kernel) rfl), (gh_in 69 (by decide +kernel) rfl), by decide +kernel, by decide +kernel, by decide +kernel⟩
theorem vR_mayAdd : Cond.instanceMethod mR_mayAdd.1 ∈ gh_T ∧ Cond.selects "RatchetGroupModel" mR_mayAdd.1 mR_mayAdd.1 ∈ gh_T := ⟨(gh_in 1013 (by decide +kernel) rfl), gh_in 40 (by decide +kernel) rfl⟩
theorem wR_leafOf : gh_MW mR_leafOf 2 := ⟨(gh_in 1018 (by decide +kernel) rfl), (gh_in 69 (by decide +kernel) rfl), by decide +kernel, by decide +kernel, by decide +kernel⟩
theorem vR_leafOf : Cond.instanceMethod mR_leafOf.1 ∈ gh_T ∧ Cond.selects "RatchetGroupModel" mR_leafOf.1 mR_leafOf.1 ∈ gh_T := ⟨(gh_in 1017 (by decide +kernel) rfl), gh_in 41 (by decide +kernel) rfl⟩
theorem wR_freeLeaf : gh_MW mR_freeLeaf 1 := ⟨(gh_in 1022 (by decide +kernel) rfl), (gh_in 69 (by decide +kernel) rfl), by decide +kernel, by decide +kernel, by decide +kernel⟩
theorem vR_freeLeaf : Cond.instanceMethod mR_freeLeaf.1 ∈ gh_T ∧ Cond.selects "RatchetGroupModel" mR_freeLeaf.1 mR_freeLeaf.1 ∈ gh_T := ⟨(gh_in 1021 (by decide +kernel) rfl), gh_in 42 (by decide +kernel) rfl⟩
theorem wR_renew : gh_MW mR_renew 2 := ⟨(gh_in 1026 (by decide +kernel) rfl), (gh_in 69 (by decide +kernel) rfl), by decide +kernel, by decide +kernel, by decide +kernel⟩
theorem vR_renew : Cond.instanceMethod mR_renew.1 ∈ gh_T ∧ Cond.selects "RatchetGroupModel" mR_renew.1 mR_renew.1 ∈ gh_T := ⟨(gh_in 1025 (by decide +kernel) rfl), gh_in 43 (by decide +kernel) rfl⟩
theorem wR_resolve : gh_MW mR_resolve 2 := ⟨(gh_in 1030 (by decide +kernel) rfl), (gh_in 69 (by decide +kernel) rfl), by decide +kernel, by decide +kernel, by decide +kernel⟩
theorem vR_resolve : Cond.instanceMethod mR_resolve.1 ∈ gh_T ∧ Cond.selects "RatchetGroupModel" mR_resolve.1 mR_resolve.1 ∈ gh_T := ⟨(gh_in 1029 (by decide +kernel) rfl), gh_in 44 (by decide +kernel) rfl⟩
theorem wR_height : gh_MW mR_height 1 := ⟨(gh_in 1033 (by decide +kernel) rfl), (gh_in 69 (by decide +kernel) rfl), by decide +kernel, by decide +kernel, by decide +kernel⟩
theorem sR_height : Cond.static mR_height.1 ∈ gh_T := (gh_in 1032 (by decide +kernel) rfl)
theorem wR_of : gh_MW mR_of 3 := ⟨(gh_in 1037 (by decide +kernel) rfl), (gh_in 69 (by decide +kernel) rfl), by decide +kernel, by decide +kernel, by decide +kernel⟩
theorem vR_of : Cond.instanceMethod mR_of.1 ∈ gh_T ∧ Cond.selects "RatchetGroupModel" mR_of.1 mR_of.1 ∈ gh_T := ⟨(gh_in 1036 (by decide +kernel) rfl), gh_in 45 (by decide +kernel) rfl⟩
theorem wR_encrypt : gh_MW mR_encrypt 3 := ⟨(gh_in 1041 (by decide +kernel) rfl), (gh_in 69 (by decide +kernel) rfl), by decide +kernel, by decide +kernel, by decide +kernel⟩
theorem vR_encrypt : Cond.instanceMethod mR_encrypt.1 ∈ gh_T ∧ Cond.selects "RatchetGroupModel" mR_encrypt.1 mR_encrypt.1 ∈ gh_T := ⟨(gh_in 1040 (by decide +kernel) rfl), gh_in 46 (by decide +kernel) rfl⟩
theorem wR_welcome : gh_MW mR_welcome 2 := ⟨(gh_in 1045 (by decide +kernel) rfl), (gh_in 69 (by decide +kernel) rfl), by decide +kernel, by decide +kernel, by decide +kernel⟩
theorem vR_welcome : Cond.instanceMethod mR_welcome.1 ∈ gh_T ∧ Cond.selects "RatchetGroupModel" mR_welcome.1 mR_welcome.1 ∈ gh_T := ⟨(gh_in 1044 (by decide +kernel) rfl), gh_in 47 (by decide +kernel) rfl⟩
theorem wR_meeting : gh_MW mR_meeting 2 := ⟨(gh_in 1049 (by decide +kernel) rfl), (gh_in 69 (by decide +kernel) rfl), by decide +kernel, by decide +kernel, by decide +kernel⟩
theorem vR_meeting : Cond.instanceMethod mR_meeting.1 ∈ gh_T ∧ Cond.selects "RatchetGroupModel" mR_meeting.1 mR_meeting.1 ∈ gh_T := ⟨(gh_in 1048 (by decide +kernel) rfl), gh_in 48 (by decide +kernel) rfl⟩
theorem wR_advance : gh_MW mR_advance 3 := ⟨(gh_in 1053 (by decide +kernel) rfl), (gh_in 69 (by decide +kernel) rfl), by decide +kernel, by decide +kernel, by decide +kernel⟩
theorem vR_advance : Cond.instanceMethod mR_advance.1 ∈ gh_T ∧ Cond.selects "RatchetGroupModel" mR_advance.1 mR_advance.1 ∈ gh_T := ⟨(gh_in 1052 (by decide +kernel) rfl), gh_in 49 (by decide +kernel) rfl⟩
theorem wR_keep : gh_MW mR_keep 2 := ⟨(gh_in 1057 (by decide +kernel) rfl), (gh_in 69 (by decide +kernel) rfl), by decide +kernel, by decide +kernel, by decide +kernel⟩
theorem vR_keep : Cond.instanceMethod mR_keep.1 ∈ gh_T ∧ Cond.selects "RatchetGroupModel" mR_keep.1 mR_keep.1 ∈ gh_T := ⟨(gh_in 1056 (by decide +kernel) rfl), gh_in 50 (by decide +kernel) rfl⟩
theorem wR_tell : gh_MW mR_tell 3 := ⟨(gh_in 1061 (by decide +kernel) rfl), (gh_in 69 (by decide +kernel) rfl), by decide +kernel, by decide +kernel, by decide +kernel⟩
theorem vR_tell : Cond.instanceMethod mR_tell.1 ∈ gh_T ∧ Cond.selects "RatchetGroupModel" mR_tell.1 mR_tell.1 ∈ gh_T := ⟨(gh_in 1060 (by decide +kernel) rfl), gh_in 51 (by decide +kernel) rfl⟩
theorem wR_come : gh_MW mR_come 1 := ⟨(gh_in 1065 (by decide +kernel) rfl), (gh_in 69 (by decide +kernel) rfl), by decide +kernel, by decide +kernel, by decide +kernel⟩
theorem vR_come : Cond.instanceMethod mR_come.1 ∈ gh_T ∧ Cond.selects "RatchetGroupModel" mR_come.1 mR_come.1 ∈ gh_T := ⟨(gh_in 1063 (by decide +kernel) rfl), (gh_in 1064 (by decide +kernel) rfl)⟩
theorem wR_nextPackage : gh_MW mR_nextPackage 1 := ⟨(gh_in 1069 (by decide +kernel) rfl), (gh_in 69 (by decide +kernel) rfl), by decide +kernel, by decide +kernel, by decide +kernel⟩
theorem vR_nextPackage : Cond.instanceMethod mR_nextPackage.1 ∈ gh_T ∧ Cond.selects "RatchetGroupModel" mR_nextPackage.1 mR_nextPackage.1 ∈ gh_T := ⟨(gh_in 1068 (by decide +kernel) rfl), gh_in 52 (by decide +kernel) rfl⟩
theorem wR_join : gh_MW mR_join 2 := ⟨(gh_in 1073 (by decide +kernel) rfl), (gh_in 69 (by decide +kernel) rfl), by decide +kernel, by decide +kernel, by decide +kernel⟩
theorem vR_join : Cond.instanceMethod mR_join.1 ∈ gh_T ∧ Cond.selects "RatchetGroupModel" mR_join.1 mR_join.1 ∈ gh_T := ⟨(gh_in 1072 (by decide +kernel) rfl), gh_in 53 (by decide +kernel) rfl⟩
theorem wR_follow : gh_MW mR_follow 1 := ⟨(gh_in 1077 (by decide +kernel) rfl), (gh_in 69 (by decide +kernel) rfl), by decide +kernel, by decide +kernel, by decide +kernel⟩
theorem vR_follow : Cond.instanceMethod mR_follow.1 ∈ gh_T ∧ Cond.selects "RatchetGroupModel" mR_follow.1 mR_follow.1 ∈ gh_T := ⟨(gh_in 1076 (by decide +kernel) rfl), gh_in 54 (by decide +kernel) rfl⟩
theorem wR_gather : gh_MW mR_gather 1 := ⟨(gh_in 1081 (by decide +kernel) rfl), (gh_in 69 (by decide +kernel) rfl), by decide +kernel, by decide +kernel, by decide +kernel⟩
theorem vR_gather : Cond.instanceMethod mR_gather.1 ∈ gh_T ∧ Cond.selects "RatchetGroupModel" mR_gather.1 mR_gather.1 ∈ gh_T := ⟨(gh_in 1080 (by decide +kernel) rfl), gh_in 55 (by decide +kernel) rfl⟩
theorem wR_hold : gh_MW mR_hold 1 := ⟨(gh_in 1085 (by decide +kernel) rfl), (gh_in 69 (by decide +kernel) rfl), by decide +kernel, by decide +kernel, by decide +kernel⟩
theorem vR_hold : Cond.instanceMethod mR_hold.1 ∈ gh_T ∧ Cond.selects "RatchetGroupModel" mR_hold.1 mR_hold.1 ∈ gh_T := ⟨(gh_in 1084 (by decide +kernel) rfl), gh_in 56 (by decide +kernel) rfl⟩
theorem wR_isHeld : gh_MW mR_isHeld 1 := ⟨(gh_in 1089 (by decide +kernel) rfl), (gh_in 69 (by decide +kernel) rfl), by decide +kernel, by decide +kernel, by decide +kernel⟩
theorem vR_isHeld : Cond.instanceMethod mR_isHeld.1 ∈ gh_T ∧ Cond.selects "RatchetGroupModel" mR_isHeld.1 mR_isHeld.1 ∈ gh_T := ⟨(gh_in 1088 (by decide +kernel) rfl), gh_in 57 (by decide +kernel) rfl⟩
theorem wR_compromise : gh_MW mR_compromise 1 := ⟨(gh_in 1093 (by decide +kernel) rfl), (gh_in 69 (by decide +kernel) rfl), by decide +kernel, by decide +kernel, by decide +kernel⟩
theorem vR_compromise : Cond.instanceMethod mR_compromise.1 ∈ gh_T ∧ Cond.selects "RatchetGroupModel" mR_compromise.1 mR_compromise.1 ∈ gh_T := ⟨(gh_in 1091 (by decide +kernel) rfl), (gh_in 1092 (by decide +kernel) rfl)⟩
theorem wR_member : gh_MW mR_member 2 := ⟨(gh_in 1097 (by decide +kernel) rfl), (gh_in 69 (by decide +kernel) rfl), by decide +kernel, by decide +kernel, by decide +kernel⟩
theorem vR_member : Cond.instanceMethod mR_member.1 ∈ gh_T ∧ Cond.selects "RatchetGroupModel" mR_member.1 mR_member.1 ∈ gh_T := ⟨(gh_in 1095 (by decide +kernel) rfl), (gh_in 1096 (by decide +kernel) rfl)⟩
theorem wR_holds : gh_MW mR_holds 2 := ⟨(gh_in 1101 (by decide +kernel) rfl), (gh_in 69 (by decide +kernel) rfl), by decide +kernel, by decide +kernel, by decide +kernel⟩
theorem vR_holds : Cond.instanceMethod mR_holds.1 ∈ gh_T ∧ Cond.selects "RatchetGroupModel" mR_holds.1 mR_holds.1 ∈ gh_T := ⟨(gh_in 1099 (by decide +kernel) rfl), (gh_in 1100 (by decide +kernel) rfl)⟩
theorem wR_has : gh_MW mR_has 1 := ⟨(gh_in 1105 (by decide +kernel) rfl), (gh_in 69 (by decide +kernel) rfl), by decide +kernel, by decide +kernel, by decide +kernel⟩
theorem vR_has : Cond.instanceMethod mR_has.1 ∈ gh_T ∧ Cond.selects "RatchetGroupModel" mR_has.1 mR_has.1 ∈ gh_T := ⟨(gh_in 1103 (by decide +kernel) rfl), (gh_in 1104 (by decide +kernel) rfl)⟩
theorem wR_node : gh_MW mR_node 3 := ⟨(gh_in 1109 (by decide +kernel) rfl), (gh_in 69 (by decide +kernel) rfl), by decide +kernel, by decide +kernel, by decide +kernel⟩
theorem vR_node : Cond.instanceMethod mR_node.1 ∈ gh_T ∧ Cond.selects "RatchetGroupModel" mR_node.1 mR_node.1 ∈ gh_T := ⟨(gh_in 1107 (by decide +kernel) rfl), (gh_in 1108 (by decide +kernel) rfl)⟩
theorem wR_epoch : gh_MW mR_epoch 2 := ⟨(gh_in 1113 (by decide +kernel) rfl), (gh_in 69 (by decide +kernel) rfl), by decide +kernel, by decide +kernel, by decide +kernel⟩
theorem vR_epoch : Cond.instanceMethod mR_epoch.1 ∈ gh_T ∧ Cond.selects "RatchetGroupModel" mR_epoch.1 mR_epoch.1 ∈ gh_T := ⟨(gh_in 1111 (by decide +kernel) rfl), (gh_in 1112 (by decide +kernel) rfl)⟩
theorem wR_epochs : gh_MW mR_epochs 0 := ⟨(gh_in 1117 (by decide +kernel) rfl), (gh_in 69 (by decide +kernel) rfl), by decide +kernel, by decide +kernel, by decide +kernel⟩
theorem vR_epochs : Cond.instanceMethod mR_epochs.1 ∈ gh_T ∧ Cond.selects "RatchetGroupModel" mR_epochs.1 mR_epochs.1 ∈ gh_T := ⟨(gh_in 1115 (by decide +kernel) rfl), (gh_in 1116 (by decide +kernel) rfl)⟩
theorem wR_waiting : gh_MW mR_waiting 0 := ⟨(gh_in 1121 (by decide +kernel) rfl), (gh_in 69 (by decide +kernel) rfl), by decide +kernel, by decide +kernel, by decide +kernel⟩
theorem vR_waiting : Cond.instanceMethod mR_waiting.1 ∈ gh_T ∧ Cond.selects "RatchetGroupModel" mR_waiting.1 mR_waiting.1 ∈ gh_T := ⟨(gh_in 1119 (by decide +kernel) rfl), (gh_in 1120 (by decide +kernel) rfl)⟩
theorem wR_isKnown : gh_MW mR_isKnown 1 := ⟨(gh_in 1125 (by decide +kernel) rfl), (gh_in 69 (by decide +kernel) rfl), by decide +kernel, by decide +kernel, by decide +kernel⟩
theorem vR_isKnown : Cond.instanceMethod mR_isKnown.1 ∈ gh_T ∧ Cond.selects "RatchetGroupModel" mR_isKnown.1 mR_isKnown.1 ∈ gh_T := ⟨(gh_in 1123 (by decide +kernel) rfl), (gh_in 1124 (by decide +kernel) rfl)⟩
theorem wR_intrude : gh_MW mR_intrude 0 := ⟨(gh_in 1129 (by decide +kernel) rfl), (gh_in 69 (by decide +kernel) rfl), by decide +kernel, by decide +kernel, by decide +kernel⟩
theorem vR_intrude : Cond.instanceMethod mR_intrude.1 ∈ gh_T ∧ Cond.selects "RatchetGroupModel" mR_intrude.1 mR_intrude.1 ∈ gh_T := ⟨(gh_in 1128 (by decide +kernel) rfl), gh_in 58 (by decide +kernel) rfl⟩
theorem wR_follows : gh_MW mR_follows 1 := ⟨(gh_in 1133 (by decide +kernel) rfl), (gh_in 69 (by decide +kernel) rfl), by decide +kernel, by decide +kernel, by decide +kernel⟩
theorem vR_follows : Cond.instanceMethod mR_follows.1 ∈ gh_T ∧ Cond.selects "RatchetGroupModel" mR_follows.1 mR_follows.1 ∈ gh_T := ⟨(gh_in 1132 (by decide +kernel) rfl), gh_in 59 (by decide +kernel) rfl⟩
theorem wR_isOpen : gh_MW mR_isOpen 2 := ⟨(gh_in 1137 (by decide +kernel) rfl), (gh_in 69 (by decide +kernel) rfl), by decide +kernel, by decide +kernel, by decide +kernel⟩
theorem vR_isOpen : Cond.instanceMethod mR_isOpen.1 ∈ gh_T ∧ Cond.selects "RatchetGroupModel" mR_isOpen.1 mR_isOpen.1 ∈ gh_T := ⟨(gh_in 1135 (by decide +kernel) rfl), (gh_in 1136 (by decide +kernel) rfl)⟩
theorem wR_known : gh_MW mR_known 0 := ⟨(gh_in 1141 (by decide +kernel) rfl), (gh_in 69 (by decide +kernel) rfl), by decide +kernel, by decide +kernel, by decide +kernel⟩
theorem vR_known : Cond.instanceMethod mR_known.1 ∈ gh_T ∧ Cond.selects "RatchetGroupModel" mR_known.1 mR_known.1 ∈ gh_T := ⟨(gh_in 1139 (by decide +kernel) rfl), (gh_in 1140 (by decide +kernel) rfl)⟩
theorem lL_37 : gh_ML "RatchetGroupLaw" 37 mG_init.1 := Or.inl (gh_in 80 (by decide +kernel) rfl)
theorem oG_3 : Cond.methodLink "RatchetGroup" 3 objectInit ∈ gh_T := (gh_in 83 (by decide +kernel) rfl)
theorem lG_11 : gh_ML "RatchetGroup" 11 mS_init.1 := Or.inl (gh_in 88 (by decide +kernel) rfl)
theorem oS_3 : Cond.methodLink "RatchetGroup$Secrets" 3 objectInit ∈ gh_T := (gh_in 91 (by decide +kernel) rfl)
theorem lG_47 : gh_ML "RatchetGroup" 47 mB_init.1 := Or.inl (gh_in 122 (by decide +kernel) rfl)
theorem oB_3 : Cond.methodLink "RatchetGroup$Member" 3 objectInit ∈ gh_T := (gh_in 125 (by decide +kernel) rfl)
theorem lB_28 : gh_ML "RatchetGroup$Member" 28 mA_fill.1 := Or.inl (gh_in 126 (by decide +kernel) rfl)
theorem lG_48 : gh_ML "RatchetGroup" 48 mA_fill.1 := Or.inl (gh_in 155 (by decide +kernel) rfl)
theorem lG_56 : gh_ML "RatchetGroup" 56 mT_init0.1 := Or.inl (gh_in 159 (by decide +kernel) rfl)
theorem oT_3 : Cond.methodLink "RatchetGroup$Tree" 3 objectInit ∈ gh_T := (gh_in 162 (by decide +kernel) rfl)
theorem lT_21 : gh_ML "RatchetGroup$Tree" 21 mA_fill.1 := Or.inl (gh_in 163 (by decide +kernel) rfl)
theorem lG_57 : gh_ML "RatchetGroup" 57 mE_init.1 := Or.inl (gh_in 179 (by decide +kernel) rfl)
theorem oE_3 : Cond.methodLink "RatchetGroup$Epoch" 3 objectInit ∈ gh_T := (gh_in 182 (by decide +kernel) rfl)
theorem lG_64 : gh_ML "RatchetGroup" 64 mS_fresh.1 := Or.inl (gh_in 223 (by decide +kernel) rfl)
theorem lS_29 : gh_ML "RatchetGroup$Secrets" 29 mA_copyOf0.1 := Or.inl (gh_in 227 (by decide +kernel) rfl)
theorem lA_304 : gh_ML "java/util/Arrays" 304 mH_min.1 := Or.inl (gh_in 237 (by decide +kernel) rfl)
theorem lG_68 : gh_ML "RatchetGroup" 68 mT_give.1 := Or.inl (gh_in 243 (by decide +kernel) rfl)
theorem lT_35 : gh_ML "RatchetGroup$Tree" 35 mT_isThere.1 := Or.inl (gh_in 247 (by decide +kernel) rfl)
theorem lG_79 : gh_ML "RatchetGroup" 79 mB_enter.1 := Or.inl (gh_in 251 (by decide +kernel) rfl)
theorem lB_37 : gh_ML "RatchetGroup$Member" 37 mB_leave.1 := Or.inl (gh_in 255 (by decide +kernel) rfl)
theorem lB_50 : gh_ML "RatchetGroup$Member" 50 mG_leafNode.1 := Or.inr ⟨"RatchetGroup", List.mem_of_getElem? (i := 5) rfl⟩
theorem lB_54 : gh_ML "RatchetGroup$Member" 54 mT_keyOf.1 := Or.inl (gh_in 262 (by decide +kernel) rfl)
theorem lL_71 : gh_ML "RatchetGroupLaw" 71 mG_member.1 := Or.inl (gh_in 297 (by decide +kernel) rfl)
theorem lG_83 : gh_ML "RatchetGroup" 83 mG_isMember.1 := Or.inl (gh_in 301 (by decide +kernel) rfl)
theorem lG_175 : gh_ML "RatchetGroup" 175 mG_gather.1 := Or.inl (gh_in 304 (by decide +kernel) rfl)
theorem lG_324 : gh_ML "RatchetGroup" 324 mB_gatherInto.1 := Or.inl (gh_in 308 (by decide +kernel) rfl)
theorem lL_75 : gh_ML "RatchetGroupLaw" 75 mG_holds.1 := Or.inl (gh_in 312 (by decide +kernel) rfl)
theorem lG_184 : gh_ML "RatchetGroup" 184 mG_isEpoch.1 := Or.inl (gh_in 316 (by decide +kernel) rfl)
theorem lG_187 : gh_ML "RatchetGroup" 187 mT_keyOf.1 := Or.inl (gh_in 320 (by decide +kernel) rfl)
theorem lL_80 : gh_ML "RatchetGroupLaw" 80 mG_has.1 := Or.inl (gh_in 321 (by decide +kernel) rfl)
theorem lL_85 : gh_ML "RatchetGroupLaw" 85 mG_node.1 := Or.inl (gh_in 325 (by decide +kernel) rfl)
theorem lG_191 : gh_ML "RatchetGroup" 191 mT_isThere.1 := Or.inl (gh_in 329 (by decide +kernel) rfl)
theorem lG_194 : gh_ML "RatchetGroup" 194 mT_unmergedAt.1 := Or.inl (gh_in 330 (by decide +kernel) rfl)
theorem lG_197 : gh_ML "RatchetGroup" 197 mT_bornAt.1 := Or.inl (gh_in 334 (by decide +kernel) rfl)
theorem lG_200 : gh_ML "RatchetGroup" 200 mG_heightOf.1 := Or.inl (gh_in 338 (by decide +kernel) rfl)
theorem lG_207 : gh_ML "RatchetGroup" 207 mI_bitCount.1 := Or.inl (gh_in 341 (by decide +kernel) rfl)
theorem lG_203 : gh_ML "RatchetGroup" 203 mT_resolution.1 := Or.inl (gh_in 347 (by decide +kernel) rfl)
theorem lT_55 : gh_ML "RatchetGroup$Tree" 55 mG_bit.1 := Or.inr ⟨"RatchetGroup", List.mem_of_getElem? (i := 6) rfl⟩
theorem lT_64 : gh_ML "RatchetGroup$Tree" 64 mG_leafNodes.1 := Or.inr ⟨"RatchetGroup", List.mem_of_getElem? (i := 7) rfl⟩
theorem lG_239 : gh_ML "RatchetGroup" 239 mG_bit.1 := Or.inl (gh_in 357 (by decide +kernel) rfl)
theorem lG_233 : gh_ML "RatchetGroup" 233 mG_leafNode.1 := Or.inl (gh_in 358 (by decide +kernel) rfl)
theorem lT_67 : gh_ML "RatchetGroup$Tree" 67 mT_resolution.1 := Or.inl (gh_in 359 (by decide +kernel) rfl)
theorem lL_90 : gh_ML "RatchetGroupLaw" 90 mG_epoch.1 := Or.inl (gh_in 360 (by decide +kernel) rfl)
theorem lL_94 : gh_ML "RatchetGroupLaw" 94 mG_epochs.1 := Or.inl (gh_in 364 (by decide +kernel) rfl)
theorem lL_98 : gh_ML "RatchetGroupLaw" 98 mG_waiting.1 := Or.inl (gh_in 368 (by decide +kernel) rfl)
theorem lL_102 : gh_ML "RatchetGroupLaw" 102 mG_isKnown.1 := Or.inl (gh_in 372 (by decide +kernel) rfl)
theorem lG_224 : gh_ML "RatchetGroup" 224 mS_isOut.1 := Or.inl (gh_in 376 (by decide +kernel) rfl)
theorem lL_106 : gh_ML "RatchetGroupLaw" 106 mG_isOpen.1 := Or.inl (gh_in 380 (by decide +kernel) rfl)
theorem lL_110 : gh_ML "RatchetGroupLaw" 110 mG_known.1 := Or.inl (gh_in 384 (by decide +kernel) rfl)
theorem lL_41 : gh_ML "RatchetGroupLaw" 41 mL_offer.1 := Or.inl (gh_in 388 (by decide +kernel) rfl)
theorem lL_7 : gh_ML "RatchetGroupLaw" 7 mG_offer.1 := Or.inl (gh_in 393 (by decide +kernel) rfl)
theorem lG_96 : gh_ML "RatchetGroup" 96 mK_init.1 := Or.inl (gh_in 475 (by decide +kernel) rfl)
theorem oK_3 : Cond.methodLink "RatchetGroup$KeyPackage" 3 objectInit ∈ gh_T := (gh_in 478 (by decide +kernel) rfl)
theorem lL_51 : gh_ML "RatchetGroupLaw" 51 mL_add.1 := Or.inl (gh_in 503 (by decide +kernel) rfl)
theorem lL_17 : gh_ML "RatchetGroupLaw" 17 mG_add.1 := Or.inl (gh_in 506 (by decide +kernel) rfl)
theorem lG_98 : gh_ML "RatchetGroup" 98 mG_mayPropose.1 := Or.inl (gh_in 510 (by decide +kernel) rfl)
theorem lG_113 : gh_ML "RatchetGroup" 113 mG_isInLatest.1 := Or.inl (gh_in 514 (by decide +kernel) rfl)
theorem lG_101 : gh_ML "RatchetGroup" 101 mP_init.1 := Or.inl (gh_in 519 (by decide +kernel) rfl)
theorem oP_1 : Cond.methodLink "RatchetGroup$Proposal" 1 objectInit ∈ gh_T := (gh_in 522 (by decide +kernel) rfl)
theorem lG_102 : gh_ML "RatchetGroup" 102 mG_propose.1 := Or.inl (gh_in 536 (by decide +kernel) rfl)
theorem lL_55 : gh_ML "RatchetGroupLaw" 55 mL_remove.1 := Or.inl (gh_in 540 (by decide +kernel) rfl)
theorem lL_21 : gh_ML "RatchetGroupLaw" 21 mG_remove.1 := Or.inl (gh_in 543 (by decide +kernel) rfl)
theorem lL_58 : gh_ML "RatchetGroupLaw" 58 mL_update.1 := Or.inl (gh_in 547 (by decide +kernel) rfl)
theorem lL_24 : gh_ML "RatchetGroupLaw" 24 mG_update.1 := Or.inl (gh_in 550 (by decide +kernel) rfl)
theorem lG_106 : gh_ML "RatchetGroup" 106 mB_keepUpdate.1 := Or.inl (gh_in 554 (by decide +kernel) rfl)
theorem lL_61 : gh_ML "RatchetGroupLaw" 61 mL_commit.1 := Or.inl (gh_in 558 (by decide +kernel) rfl)
theorem lL_27 : gh_ML "RatchetGroupLaw" 27 mG_commit.1 := Or.inl (gh_in 561 (by decide +kernel) rfl)
theorem lG_116 : gh_ML "RatchetGroup" 116 mT_init1.1 := Or.inl (gh_in 565 (by decide +kernel) rfl)
theorem lT_31 : gh_ML "RatchetGroup$Tree" 31 mA_copyOf1.1 := Or.inl (gh_in 568 (by decide +kernel) rfl)
theorem lG_119 : gh_ML "RatchetGroup" 119 mS_ruleCount.1 := Or.inl (gh_in 576 (by decide +kernel) rfl)
theorem lG_122 : gh_ML "RatchetGroup" 122 mG_doRemoves.1 := Or.inl (gh_in 580 (by decide +kernel) rfl)
theorem lG_236 : gh_ML "RatchetGroup" 236 mT_blankLeafAndPath.1 := Or.inl (gh_in 584 (by decide +kernel) rfl)
theorem lT_43 : gh_ML "RatchetGroup$Tree" 43 mG_pathNode.1 := Or.inr ⟨"RatchetGroup", List.mem_of_getElem? (i := 11) rfl⟩
theorem lT_47 : gh_ML "RatchetGroup$Tree" 47 mT_blank.1 := Or.inl (gh_in 591 (by decide +kernel) rfl)
theorem lT_39 : gh_ML "RatchetGroup$Tree" 39 mT_give.1 := Or.inl (gh_in 595 (by decide +kernel) rfl)
theorem lG_242 : gh_ML "RatchetGroup" 242 mG_dismiss.1 := Or.inl (gh_in 596 (by decide +kernel) rfl)
theorem lG_248 : gh_ML "RatchetGroup" 248 mB_leave.1 := Or.inl (gh_in 600 (by decide +kernel) rfl)
theorem lG_245 : gh_ML "RatchetGroup" 245 mT_shrink.1 := Or.inl (gh_in 601 (by decide +kernel) rfl)
theorem lT_58 : gh_ML "RatchetGroup$Tree" 58 mT_firstLeafWithKey.1 := Or.inl (gh_in 605 (by decide +kernel) rfl)
theorem lT_61 : gh_ML "RatchetGroup$Tree" 61 mG_leafNode.1 := Or.inr ⟨"RatchetGroup", List.mem_of_getElem? (i := 12) rfl⟩
theorem lT_51 : gh_ML "RatchetGroup$Tree" 51 mT_keyOf.1 := Or.inl (gh_in 610 (by decide +kernel) rfl)
theorem lG_126 : gh_ML "RatchetGroup" 126 mG_doUpdates.1 := Or.inl (gh_in 611 (by decide +kernel) rfl)
theorem lG_129 : gh_ML "RatchetGroup" 129 mG_doAdds.1 := Or.inl (gh_in 615 (by decide +kernel) rfl)
theorem lG_254 : gh_ML "RatchetGroup" 254 mG_mayBeAdded.1 := Or.inl (gh_in 619 (by decide +kernel) rfl)
theorem lG_266 : gh_ML "RatchetGroup" 266 mG_hasLeaf.1 := Or.inl (gh_in 623 (by decide +kernel) rfl)
theorem lG_258 : gh_ML "RatchetGroup" 258 mG_addBy.1 := Or.inl (gh_in 627 (by decide +kernel) rfl)
theorem lG_269 : gh_ML "RatchetGroup" 269 mT_makeRoom.1 := Or.inl (gh_in 631 (by decide +kernel) rfl)
theorem lG_275 : gh_ML "RatchetGroup" 275 mT_markUnmerged.1 := Or.inl (gh_in 635 (by decide +kernel) rfl)
theorem lG_141 : gh_ML "RatchetGroup" 141 mG_makePath.1 := Or.inl (gh_in 639 (by decide +kernel) rfl)
theorem lG_279 : gh_ML "RatchetGroup" 279 mG_pathNode.1 := Or.inl (gh_in 643 (by decide +kernel) rfl)
theorem lG_282 : gh_ML "RatchetGroup" 282 mG_sideNode.1 := Or.inl (gh_in 644 (by decide +kernel) rfl)
theorem lG_285 : gh_ML "RatchetGroup" 285 mT_blank.1 := Or.inl (gh_in 647 (by decide +kernel) rfl)
theorem lG_288 : gh_ML "RatchetGroup" 288 mS_derive.1 := Or.inl (gh_in 648 (by decide +kernel) rfl)
theorem lS_35 : gh_ML "RatchetGroup$Secrets" 35 mS_deriveOfTwo.1 := Or.inl (gh_in 652 (by decide +kernel) rfl)
theorem lS_39 : gh_ML "RatchetGroup$Secrets" 39 mS_fresh.1 := Or.inl (gh_in 656 (by decide +kernel) rfl)
theorem lS_43 : gh_ML "RatchetGroup$Secrets" 43 mS_tie.1 := Or.inl (gh_in 657 (by decide +kernel) rfl)
theorem lS_50 : gh_ML "RatchetGroup$Secrets" 50 mA_copyOf1.1 := Or.inl (gh_in 661 (by decide +kernel) rfl)
theorem lG_291 : gh_ML "RatchetGroup" 291 mG_leafNodes.1 := Or.inl (gh_in 662 (by decide +kernel) rfl)
theorem lG_294 : gh_ML "RatchetGroup" 294 mG_sendToNodes.1 := Or.inl (gh_in 663 (by decide +kernel) rfl)
theorem lG_302 : gh_ML "RatchetGroup" 302 mG_encrypt.1 := Or.inl (gh_in 667 (by decide +kernel) rfl)
theorem lG_311 : gh_ML "RatchetGroup" 311 mS_tie.1 := Or.inl (gh_in 671 (by decide +kernel) rfl)
theorem lG_298 : gh_ML "RatchetGroup" 298 mG_sendToAdded.1 := Or.inl (gh_in 672 (by decide +kernel) rfl)
theorem lG_145 : gh_ML "RatchetGroup" 145 mG_openEpoch.1 := Or.inl (gh_in 676 (by decide +kernel) rfl)
theorem lG_308 : gh_ML "RatchetGroup" 308 mS_deriveOfTwo.1 := Or.inl (gh_in 680 (by decide +kernel) rfl)
theorem lG_149 : gh_ML "RatchetGroup" 149 mB_moveByCommit.1 := Or.inl (gh_in 681 (by decide +kernel) rfl)
theorem lB_59 : gh_ML "RatchetGroup$Member" 59 mB_dropOldKeys.1 := Or.inl (gh_in 685 (by decide +kernel) rfl)
theorem lB_86 : gh_ML "RatchetGroup$Member" 86 mG_pathNode.1 := Or.inr ⟨"RatchetGroup", List.mem_of_getElem? (i := 13) rfl⟩
theorem lB_63 : gh_ML "RatchetGroup$Member" 63 mE_lowestCounting.1 := Or.inl (gh_in 690 (by decide +kernel) rfl)
theorem lE_33 : gh_ML "RatchetGroup$Epoch" 33 mG_pathNode.1 := Or.inr ⟨"RatchetGroup", List.mem_of_getElem? (i := 14) rfl⟩
theorem lE_37 : gh_ML "RatchetGroup$Epoch" 37 mG_bit.1 := Or.inr ⟨"RatchetGroup", List.mem_of_getElem? (i := 15) rfl⟩
theorem lB_66 : gh_ML "RatchetGroup$Member" 66 mB_learnPath.1 := Or.inl (gh_in 696 (by decide +kernel) rfl)
theorem lB_99 : gh_ML "RatchetGroup$Member" 99 mH_max.1 := Or.inl (gh_in 700 (by decide +kernel) rfl)
theorem lB_73 : gh_ML "RatchetGroup$Member" 73 mG_bit.1 := Or.inr ⟨"RatchetGroup", List.mem_of_getElem? (i := 16) rfl⟩
theorem lG_155 : gh_ML "RatchetGroup" 155 mS_spread.1 := Or.inl (gh_in 704 (by decide +kernel) rfl)
theorem lS_53 : gh_ML "RatchetGroup$Secrets" 53 mH_max.1 := Or.inl (gh_in 708 (by decide +kernel) rfl)
theorem lS_58 : gh_ML "RatchetGroup$Secrets" 58 mS_isOut.1 := Or.inl (gh_in 709 (by decide +kernel) rfl)
theorem lS_62 : gh_ML "RatchetGroup$Secrets" 62 mS_learn.1 := Or.inl (gh_in 710 (by decide +kernel) rfl)
theorem lL_65 : gh_ML "RatchetGroupLaw" 65 mL_come.1 := Or.inl (gh_in 714 (by decide +kernel) rfl)
theorem lL_31 : gh_ML "RatchetGroupLaw" 31 mG_come.1 := Or.inl (gh_in 717 (by decide +kernel) rfl)
theorem lG_164 : gh_ML "RatchetGroup" 164 mB_follow.1 := Or.inl (gh_in 721 (by decide +kernel) rfl)
theorem lB_79 : gh_ML "RatchetGroup$Member" 79 mB_canOpen.1 := Or.inl (gh_in 725 (by decide +kernel) rfl)
theorem lB_90 : gh_ML "RatchetGroup$Member" 90 mT_resolution.1 := Or.inl (gh_in 729 (by decide +kernel) rfl)
theorem lB_96 : gh_ML "RatchetGroup$Member" 96 mG_leafNodes.1 := Or.inr ⟨"RatchetGroup", List.mem_of_getElem? (i := 17) rfl⟩
theorem lG_167 : gh_ML "RatchetGroup" 167 mG_earliestWelcome.1 := Or.inl (gh_in 731 (by decide +kernel) rfl)
theorem lG_171 : gh_ML "RatchetGroup" 171 mG_joinBy.1 := Or.inl (gh_in 735 (by decide +kernel) rfl)
theorem lG_318 : gh_ML "RatchetGroup" 318 mE_lowestCounting.1 := Or.inl (gh_in 739 (by decide +kernel) rfl)
theorem lG_321 : gh_ML "RatchetGroup" 321 mB_learnPath.1 := Or.inl (gh_in 740 (by decide +kernel) rfl)
theorem lL_68 : gh_ML "RatchetGroupLaw" 68 mL_compromise.1 := Or.inl (gh_in 741 (by decide +kernel) rfl)
theorem lL_34 : gh_ML "RatchetGroupLaw" 34 mG_compromise.1 := Or.inl (gh_in 744 (by decide +kernel) rfl)
theorem lG_178 : gh_ML "RatchetGroup" 178 mS_learn.1 := Or.inl (gh_in 748 (by decide +kernel) rfl)
theorem lL_40 : gh_ML "RatchetGroupLaw" 40 mR_init.1 := Or.inl (gh_in 751 (by decide +kernel) rfl)
theorem oR_1 : Cond.methodLink "RatchetGroupModel" 1 objectInit ∈ gh_T := (gh_in 754 (by decide +kernel) rfl)
theorem lR_143 : gh_ML "RatchetGroupModel" 143 mR_make.1 := Or.inl (gh_in 755 (by decide +kernel) rfl)
theorem lR_147 : gh_ML "RatchetGroupModel" 147 mR_leave.1 := Or.inl (gh_in 759 (by decide +kernel) rfl)
theorem lL_47 : gh_ML "RatchetGroupLaw" 47 mR_thrown.1 := Or.inl (gh_in 921 (by decide +kernel) rfl)
theorem lL_46 : gh_ML "RatchetGroupLaw" 46 mR_offer.1 := Or.inl (gh_in 925 (by decide +kernel) rfl)
theorem lR_264 : gh_ML "RatchetGroupModel" 264 mR_in.1 := Or.inl (gh_in 929 (by decide +kernel) rfl)
theorem lL_54 : gh_ML "RatchetGroupLaw" 54 mR_add.1 := Or.inl (gh_in 932 (by decide +kernel) rfl)
theorem lR_270 : gh_ML "RatchetGroupModel" 270 mR_isAsked.1 := Or.inl (gh_in 936 (by decide +kernel) rfl)
theorem lR_267 : gh_ML "RatchetGroupModel" 267 mR_isLatest.1 := Or.inl (gh_in 940 (by decide +kernel) rfl)
theorem lR_274 : gh_ML "RatchetGroupModel" 274 mR_propose.1 := Or.inl (gh_in 944 (by decide +kernel) rfl)
theorem lL_57 : gh_ML "RatchetGroupLaw" 57 mR_remove.1 := Or.inl (gh_in 948 (by decide +kernel) rfl)
theorem lL_60 : gh_ML "RatchetGroupLaw" 60 mR_update.1 := Or.inl (gh_in 952 (by decide +kernel) rfl)
theorem lL_64 : gh_ML "RatchetGroupLaw" 64 mR_commit.1 := Or.inl (gh_in 956 (by decide +kernel) rfl)
theorem lR_277 : gh_ML "RatchetGroupModel" 277 mR_change.1 := Or.inl (gh_in 960 (by decide +kernel) rfl)
theorem lR_236 : gh_ML "RatchetGroupModel" 236 mR_copyTree.1 := Or.inl (gh_in 964 (by decide +kernel) rfl)
theorem lR_192 : gh_ML "RatchetGroupModel" 192 mR_width.1 := Or.inl (gh_in 968 (by decide +kernel) rfl)
theorem lR_239 : gh_ML "RatchetGroupModel" 239 mR_findRemoves.1 := Or.inl (gh_in 972 (by decide +kernel) rfl)
theorem lR_242 : gh_ML "RatchetGroupModel" 242 mR_findUpdates.1 := Or.inl (gh_in 976 (by decide +kernel) rfl)
theorem lR_245 : gh_ML "RatchetGroupModel" 245 mR_doRemoves.1 := Or.inl (gh_in 980 (by decide +kernel) rfl)
theorem lR_172 : gh_ML "RatchetGroupModel" 172 mR_blank.1 := Or.inl (gh_in 984 (by decide +kernel) rfl)
theorem lR_198 : gh_ML "RatchetGroupModel" 198 mR_blankPath.1 := Or.inl (gh_in 988 (by decide +kernel) rfl)
theorem lR_168 : gh_ML "RatchetGroupModel" 168 mR_above.1 := Or.inl (gh_in 992 (by decide +kernel) rfl)
theorem lR_201 : gh_ML "RatchetGroupModel" 201 mR_isRightBlank.1 := Or.inl (gh_in 995 (by decide +kernel) rfl)
theorem lR_248 : gh_ML "RatchetGroupModel" 248 mR_doUpdates.1 := Or.inl (gh_in 999 (by decide +kernel) rfl)
theorem lR_204 : gh_ML "RatchetGroupModel" 204 mR_set.1 := Or.inl (gh_in 1003 (by decide +kernel) rfl)
theorem lR_251 : gh_ML "RatchetGroupModel" 251 mR_doAdds.1 := Or.inl (gh_in 1007 (by decide +kernel) rfl)
theorem lR_211 : gh_ML "RatchetGroupModel" 211 mR_mayAdd.1 := Or.inl (gh_in 1011 (by decide +kernel) rfl)
theorem lR_208 : gh_ML "RatchetGroupModel" 208 mR_leafOf.1 := Or.inl (gh_in 1015 (by decide +kernel) rfl)
theorem lR_215 : gh_ML "RatchetGroupModel" 215 mR_freeLeaf.1 := Or.inl (gh_in 1019 (by decide +kernel) rfl)
theorem lR_254 : gh_ML "RatchetGroupModel" 254 mR_renew.1 := Or.inl (gh_in 1023 (by decide +kernel) rfl)
theorem lR_218 : gh_ML "RatchetGroupModel" 218 mR_resolve.1 := Or.inl (gh_in 1027 (by decide +kernel) rfl)
theorem lR_179 : gh_ML "RatchetGroupModel" 179 mR_height.1 := Or.inl (gh_in 1031 (by decide +kernel) rfl)
theorem lR_221 : gh_ML "RatchetGroupModel" 221 mR_of.1 := Or.inl (gh_in 1034 (by decide +kernel) rfl)
theorem lR_224 : gh_ML "RatchetGroupModel" 224 mR_encrypt.1 := Or.inl (gh_in 1038 (by decide +kernel) rfl)
theorem lR_257 : gh_ML "RatchetGroupModel" 257 mR_welcome.1 := Or.inl (gh_in 1042 (by decide +kernel) rfl)
theorem lR_227 : gh_ML "RatchetGroupModel" 227 mR_meeting.1 := Or.inl (gh_in 1046 (by decide +kernel) rfl)
theorem lR_260 : gh_ML "RatchetGroupModel" 260 mR_advance.1 := Or.inl (gh_in 1050 (by decide +kernel) rfl)
theorem lR_230 : gh_ML "RatchetGroupModel" 230 mR_keep.1 := Or.inl (gh_in 1054 (by decide +kernel) rfl)
theorem lR_233 : gh_ML "RatchetGroupModel" 233 mR_tell.1 := Or.inl (gh_in 1058 (by decide +kernel) rfl)
theorem lL_67 : gh_ML "RatchetGroupLaw" 67 mR_come.1 := Or.inl (gh_in 1062 (by decide +kernel) rfl)
theorem lR_287 : gh_ML "RatchetGroupModel" 287 mR_nextPackage.1 := Or.inl (gh_in 1066 (by decide +kernel) rfl)
theorem lR_290 : gh_ML "RatchetGroupModel" 290 mR_join.1 := Or.inl (gh_in 1070 (by decide +kernel) rfl)
theorem lR_293 : gh_ML "RatchetGroupModel" 293 mR_follow.1 := Or.inl (gh_in 1074 (by decide +kernel) rfl)
theorem lR_281 : gh_ML "RatchetGroupModel" 281 mR_gather.1 := Or.inl (gh_in 1078 (by decide +kernel) rfl)
theorem lR_186 : gh_ML "RatchetGroupModel" 186 mR_hold.1 := Or.inl (gh_in 1082 (by decide +kernel) rfl)
theorem lR_284 : gh_ML "RatchetGroupModel" 284 mR_isHeld.1 := Or.inl (gh_in 1086 (by decide +kernel) rfl)
theorem lL_70 : gh_ML "RatchetGroupLaw" 70 mR_compromise.1 := Or.inl (gh_in 1090 (by decide +kernel) rfl)
theorem lL_74 : gh_ML "RatchetGroupLaw" 74 mR_member.1 := Or.inl (gh_in 1094 (by decide +kernel) rfl)
theorem lL_79 : gh_ML "RatchetGroupLaw" 79 mR_holds.1 := Or.inl (gh_in 1098 (by decide +kernel) rfl)
theorem lL_84 : gh_ML "RatchetGroupLaw" 84 mR_has.1 := Or.inl (gh_in 1102 (by decide +kernel) rfl)
theorem lL_89 : gh_ML "RatchetGroupLaw" 89 mR_node.1 := Or.inl (gh_in 1106 (by decide +kernel) rfl)
theorem lL_93 : gh_ML "RatchetGroupLaw" 93 mR_epoch.1 := Or.inl (gh_in 1110 (by decide +kernel) rfl)
theorem lL_97 : gh_ML "RatchetGroupLaw" 97 mR_epochs.1 := Or.inl (gh_in 1114 (by decide +kernel) rfl)
theorem lL_101 : gh_ML "RatchetGroupLaw" 101 mR_waiting.1 := Or.inl (gh_in 1118 (by decide +kernel) rfl)
theorem lL_105 : gh_ML "RatchetGroupLaw" 105 mR_isKnown.1 := Or.inl (gh_in 1122 (by decide +kernel) rfl)
theorem lR_296 : gh_ML "RatchetGroupModel" 296 mR_intrude.1 := Or.inl (gh_in 1126 (by decide +kernel) rfl)
theorem lR_164 : gh_ML "RatchetGroupModel" 164 mR_follows.1 := Or.inl (gh_in 1130 (by decide +kernel) rfl)
theorem lL_109 : gh_ML "RatchetGroupLaw" 109 mR_isOpen.1 := Or.inl (gh_in 1134 (by decide +kernel) rfl)
theorem lL_113 : gh_ML "RatchetGroupLaw" 113 mR_known.1 := Or.inl (gh_in 1138 (by decide +kernel) rfl)
theorem oo_i : Cond.instanceMethod objectInit ∈ gh_T := gh_in 84 (by decide +kernel) rfl
theorem oo_c : Cond.code objectInit ⟨#[0xb1]⟩ 1 none ∈ gh_T := gh_in 85 (by decide +kernel) rfl
end
section
theorem dG_init_0 : decode prog_1_method_1_code 0 = .ok (.aload_n 0, 1) := by decide +kernel
theorem dG_init_1 : decode prog_1_method_1_code 1 = .ok (.invokespecial 3, 3) := by decide +kernel
theorem dG_init_4 : decode prog_1_method_1_code 4 = .ok (.aload_n 0, 1) := by decide +kernel
theorem dG_init_5 : decode prog_1_method_1_code 5 = .ok (.new 9, 3) := by decide +kernel
theorem dG_init_8 : decode prog_1_method_1_code 8 = .ok (.dup, 1) := by decide +kernel
theorem dG_init_9 : decode prog_1_method_1_code 9 = .ok (.invokespecial 11, 3) := by decide +kernel
theorem dG_init_12 : decode prog_1_method_1_code 12 = .ok (.putfield 12, 3) := by decide +kernel
theorem dG_init_15 : decode prog_1_method_1_code 15 = .ok (.aload_n 0, 1) := by decide +kernel
theorem dG_init_16 : decode prog_1_method_1_code 16 = .ok (.bipush 16, 2) := by decide +kernel
theorem dG_init_18 : decode prog_1_method_1_code 18 = .ok (.anewarray 16, 3) := by decide +kernel
theorem dG_init_21 : decode prog_1_method_1_code 21 = .ok (.putfield 18, 3) := by decide +kernel
theorem dG_init_24 : decode prog_1_method_1_code 24 = .ok (.aload_n 0, 1) := by decide +kernel
theorem dG_init_25 : decode prog_1_method_1_code 25 = .ok (.bipush 60, 2) := by decide +kernel
theorem dG_init_27 : decode prog_1_method_1_code 27 = .ok (.anewarray 22, 3) := by decide +kernel
theorem dG_init_30 : decode prog_1_method_1_code 30 = .ok (.putfield 24, 3) := by decide +kernel
theorem dG_init_33 : decode prog_1_method_1_code 33 = .ok (.aload_n 0, 1) := by decide +kernel
theorem dG_init_34 : decode prog_1_method_1_code 34 = .ok (.bipush 60, 2) := by decide +kernel
theorem dG_init_36 : decode prog_1_method_1_code 36 = .ok (.anewarray 28, 3) := by decide +kernel
theorem dG_init_39 : decode prog_1_method_1_code 39 = .ok (.putfield 30, 3) := by decide +kernel
theorem dG_init_42 : decode prog_1_method_1_code 42 = .ok (.aload_n 0, 1) := by decide +kernel
theorem dG_init_43 : decode prog_1_method_1_code 43 = .ok (.bipush 20, 2) := by decide +kernel
theorem dG_init_45 : decode prog_1_method_1_code 45 = .ok (.anewarray 34, 3) := by decide +kernel
theorem dG_init_48 : decode prog_1_method_1_code 48 = .ok (.putfield 36, 3) := by decide +kernel
theorem dG_init_51 : decode prog_1_method_1_code 51 = .ok (.aload_n 0, 1) := by decide +kernel
theorem dG_init_52 : decode prog_1_method_1_code 52 = .ok (.bipush 16, 2) := by decide +kernel
theorem dG_init_54 : decode prog_1_method_1_code 54 = .ok (.newarray .int, 2) := by decide +kernel
theorem dG_init_56 : decode prog_1_method_1_code 56 = .ok (.putfield 40, 3) := by decide +kernel
theorem dG_init_59 : decode prog_1_method_1_code 59 = .ok (.aload_n 0, 1) := by decide +kernel
theorem dG_init_60 : decode prog_1_method_1_code 60 = .ok (.sipush 146, 3) := by decide +kernel
theorem dG_init_63 : decode prog_1_method_1_code 63 = .ok (.newarray .int, 2) := by decide +kernel
theorem dG_init_65 : decode prog_1_method_1_code 65 = .ok (.putfield 44, 3) := by decide +kernel
theorem dG_init_68 : decode prog_1_method_1_code 68 = .ok (.iconst 0, 1) := by decide +kernel
theorem dG_init_69 : decode prog_1_method_1_code 69 = .ok (.istore_n 1, 1) := by decide +kernel
theorem dG_init_70 : decode prog_1_method_1_code 70 = .ok (.iload_n 1, 1) := by decide +kernel
theorem dG_init_71 : decode prog_1_method_1_code 71 = .ok (.bipush 16, 2) := by decide +kernel
theorem dG_init_73 : decode prog_1_method_1_code 73 = .ok (.if_icmp .ge 22, 3) := by decide +kernel
theorem dG_init_76 : decode prog_1_method_1_code 76 = .ok (.aload_n 0, 1) := by decide +kernel
theorem dG_init_77 : decode prog_1_method_1_code 77 = .ok (.getfield 18, 3) := by decide +kernel
theorem dG_init_80 : decode prog_1_method_1_code 80 = .ok (.iload_n 1, 1) := by decide +kernel
theorem dG_init_81 : decode prog_1_method_1_code 81 = .ok (.new 16, 3) := by decide +kernel
theorem dG_init_84 : decode prog_1_method_1_code 84 = .ok (.dup, 1) := by decide +kernel
theorem dG_init_85 : decode prog_1_method_1_code 85 = .ok (.invokespecial 47, 3) := by decide +kernel
theorem dG_init_88 : decode prog_1_method_1_code 88 = .ok (.aastore, 1) := by decide +kernel
theorem dG_init_89 : decode prog_1_method_1_code 89 = .ok (.iinc 1 1, 3) := by decide +kernel
theorem dG_init_92 : decode prog_1_method_1_code 92 = .ok (.goto (-22), 3) := by decide +kernel
theorem dG_init_95 : decode prog_1_method_1_code 95 = .ok (.aload_n 0, 1) := by decide +kernel
theorem dG_init_96 : decode prog_1_method_1_code 96 = .ok (.getfield 40, 3) := by decide +kernel
theorem dG_init_99 : decode prog_1_method_1_code 99 = .ok (.iconst (-1), 1) := by decide +kernel
theorem dG_init_100 : decode prog_1_method_1_code 100 = .ok (.invokestatic 48, 3) := by decide +kernel
theorem dG_init_103 : decode prog_1_method_1_code 103 = .ok (.new 22, 3) := by decide +kernel
theorem dG_init_106 : decode prog_1_method_1_code 106 = .ok (.dup, 1) := by decide +kernel
theorem dG_init_107 : decode prog_1_method_1_code 107 = .ok (.iconst 0, 1) := by decide +kernel
theorem dG_init_108 : decode prog_1_method_1_code 108 = .ok (.new 54, 3) := by decide +kernel
theorem dG_init_111 : decode prog_1_method_1_code 111 = .ok (.dup, 1) := by decide +kernel
theorem dG_init_112 : decode prog_1_method_1_code 112 = .ok (.invokespecial 56, 3) := by decide +kernel
theorem dG_init_115 : decode prog_1_method_1_code 115 = .ok (.iconst (-1), 1) := by decide +kernel
theorem dG_init_116 : decode prog_1_method_1_code 116 = .ok (.invokespecial 57, 3) := by decide +kernel
theorem dG_init_119 : decode prog_1_method_1_code 119 = .ok (.astore_n 1, 1) := by decide +kernel
theorem dG_init_120 : decode prog_1_method_1_code 120 = .ok (.aload_n 1, 1) := by decide +kernel
theorem dG_init_121 : decode prog_1_method_1_code 121 = .ok (.getfield 60, 3) := by decide +kernel
theorem dG_init_124 : decode prog_1_method_1_code 124 = .ok (.iconst 0, 1) := by decide +kernel
theorem dG_init_125 : decode prog_1_method_1_code 125 = .ok (.aload_n 0, 1) := by decide +kernel
theorem dG_init_126 : decode prog_1_method_1_code 126 = .ok (.getfield 12, 3) := by decide +kernel
theorem dG_init_129 : decode prog_1_method_1_code 129 = .ok (.invokevirtual 64, 3) := by decide +kernel
theorem dG_init_132 : decode prog_1_method_1_code 132 = .ok (.iconst 0, 1) := by decide +kernel
theorem dG_init_133 : decode prog_1_method_1_code 133 = .ok (.invokevirtual 68, 3) := by decide +kernel
theorem dG_init_136 : decode prog_1_method_1_code 136 = .ok (.aload_n 1, 1) := by decide +kernel
theorem dG_init_137 : decode prog_1_method_1_code 137 = .ok (.aload_n 0, 1) := by decide +kernel
theorem dG_init_138 : decode prog_1_method_1_code 138 = .ok (.getfield 12, 3) := by decide +kernel
theorem dG_init_141 : decode prog_1_method_1_code 141 = .ok (.invokevirtual 64, 3) := by decide +kernel
theorem dG_init_144 : decode prog_1_method_1_code 144 = .ok (.putfield 72, 3) := by decide +kernel
theorem dG_init_147 : decode prog_1_method_1_code 147 = .ok (.aload_n 0, 1) := by decide +kernel
theorem dG_init_148 : decode prog_1_method_1_code 148 = .ok (.getfield 24, 3) := by decide +kernel
theorem dG_init_151 : decode prog_1_method_1_code 151 = .ok (.iconst 0, 1) := by decide +kernel
theorem dG_init_152 : decode prog_1_method_1_code 152 = .ok (.aload_n 1, 1) := by decide +kernel
theorem dG_init_153 : decode prog_1_method_1_code 153 = .ok (.aastore, 1) := by decide +kernel
theorem dG_init_154 : decode prog_1_method_1_code 154 = .ok (.aload_n 0, 1) := by decide +kernel
theorem dG_init_155 : decode prog_1_method_1_code 155 = .ok (.iconst 1, 1) := by decide +kernel
theorem dG_init_156 : decode prog_1_method_1_code 156 = .ok (.putfield 76, 3) := by decide +kernel
theorem dG_init_159 : decode prog_1_method_1_code 159 = .ok (.aload_n 0, 1) := by decide +kernel
theorem dG_init_160 : decode prog_1_method_1_code 160 = .ok (.getfield 40, 3) := by decide +kernel
theorem dG_init_163 : decode prog_1_method_1_code 163 = .ok (.iconst 0, 1) := by decide +kernel
theorem dG_init_164 : decode prog_1_method_1_code 164 = .ok (.iconst 0, 1) := by decide +kernel
theorem dG_init_165 : decode prog_1_method_1_code 165 = .ok (.iastore, 1) := by decide +kernel
theorem dG_init_166 : decode prog_1_method_1_code 166 = .ok (.aload_n 0, 1) := by decide +kernel
theorem dG_init_167 : decode prog_1_method_1_code 167 = .ok (.getfield 18, 3) := by decide +kernel
theorem dG_init_170 : decode prog_1_method_1_code 170 = .ok (.iconst 0, 1) := by decide +kernel
theorem dG_init_171 : decode prog_1_method_1_code 171 = .ok (.aaload, 1) := by decide +kernel
theorem dG_init_172 : decode prog_1_method_1_code 172 = .ok (.aload_n 1, 1) := by decide +kernel
theorem dG_init_173 : decode prog_1_method_1_code 173 = .ok (.iconst 0, 1) := by decide +kernel
theorem dG_init_174 : decode prog_1_method_1_code 174 = .ok (.invokevirtual 79, 3) := by decide +kernel
theorem dG_init_177 : decode prog_1_method_1_code 177 = .ok (.return_, 1) := by decide +kernel
theorem dG_leafNode_0 : decode prog_1_method_40_code 0 = .ok (.iconst 2, 1) := by decide +kernel
theorem dG_leafNode_1 : decode prog_1_method_40_code 1 = .ok (.iload_n 0, 1) := by decide +kernel
theorem dG_leafNode_2 : decode prog_1_method_40_code 2 = .ok (.imul, 1) := by decide +kernel
theorem dG_leafNode_3 : decode prog_1_method_40_code 3 = .ok (.ireturn, 1) := by decide +kernel
theorem dG_member_0 : decode prog_1_method_9_code 0 = .ok (.iload_n 1, 1) := by decide +kernel
theorem dG_member_1 : decode prog_1_method_9_code 1 = .ok (.invokestatic 83, 3) := by decide +kernel
theorem dG_member_4 : decode prog_1_method_9_code 4 = .ok (.ifCond .ne 5, 3) := by decide +kernel
theorem dG_member_7 : decode prog_1_method_9_code 7 = .ok (.iconst (-1), 1) := by decide +kernel
theorem dG_member_8 : decode prog_1_method_9_code 8 = .ok (.ireturn, 1) := by decide +kernel
theorem dG_member_9 : decode prog_1_method_9_code 9 = .ok (.aload_n 0, 1) := by decide +kernel
theorem dG_member_10 : decode prog_1_method_9_code 10 = .ok (.getfield 18, 3) := by decide +kernel
theorem dG_member_13 : decode prog_1_method_9_code 13 = .ok (.iload_n 1, 1) := by decide +kernel
theorem dG_member_14 : decode prog_1_method_9_code 14 = .ok (.aaload, 1) := by decide +kernel
theorem dG_member_15 : decode prog_1_method_9_code 15 = .ok (.astore_n 3, 1) := by decide +kernel
theorem dG_member_16 : decode prog_1_method_9_code 16 = .ok (.iload_n 2, 1) := by decide +kernel
theorem dG_member_17 : decode prog_1_method_9_code 17 = .ok (.tableswitch 52 0 3 #[31, 36, 41, 47], 31) := by decide +kernel
theorem dG_member_48 : decode prog_1_method_9_code 48 = .ok (.aload_n 3, 1) := by decide +kernel
theorem dG_member_49 : decode prog_1_method_9_code 49 = .ok (.getfield 161, 3) := by decide +kernel
theorem dG_member_52 : decode prog_1_method_9_code 52 = .ok (.ireturn, 1) := by decide +kernel
theorem dG_member_53 : decode prog_1_method_9_code 53 = .ok (.aload_n 3, 1) := by decide +kernel
theorem dG_member_54 : decode prog_1_method_9_code 54 = .ok (.getfield 110, 3) := by decide +kernel
theorem dG_member_57 : decode prog_1_method_9_code 57 = .ok (.ireturn, 1) := by decide +kernel
theorem dG_member_58 : decode prog_1_method_9_code 58 = .ok (.aload_n 0, 1) := by decide +kernel
theorem dG_member_59 : decode prog_1_method_9_code 59 = .ok (.iload_n 1, 1) := by decide +kernel
theorem dG_member_60 : decode prog_1_method_9_code 60 = .ok (.invokevirtual 175, 3) := by decide +kernel
theorem dG_member_63 : decode prog_1_method_9_code 63 = .ok (.ireturn, 1) := by decide +kernel
theorem dG_member_64 : decode prog_1_method_9_code 64 = .ok (.aload_n 3, 1) := by decide +kernel
theorem dG_member_65 : decode prog_1_method_9_code 65 = .ok (.getfield 181, 3) := by decide +kernel
theorem dG_member_68 : decode prog_1_method_9_code 68 = .ok (.ireturn, 1) := by decide +kernel
theorem dG_member_69 : decode prog_1_method_9_code 69 = .ok (.iconst (-1), 1) := by decide +kernel
theorem dG_member_70 : decode prog_1_method_9_code 70 = .ok (.ireturn, 1) := by decide +kernel
theorem dG_isMember_0 : decode prog_1_method_19_code 0 = .ok (.iload_n 0, 1) := by decide +kernel
theorem dG_isMember_1 : decode prog_1_method_19_code 1 = .ok (.ifCond .lt 13, 3) := by decide +kernel
theorem dG_isMember_4 : decode prog_1_method_19_code 4 = .ok (.iload_n 0, 1) := by decide +kernel
theorem dG_isMember_5 : decode prog_1_method_19_code 5 = .ok (.bipush 16, 2) := by decide +kernel
theorem dG_isMember_7 : decode prog_1_method_19_code 7 = .ok (.if_icmp .ge 7, 3) := by decide +kernel
theorem dG_isMember_10 : decode prog_1_method_19_code 10 = .ok (.iconst 1, 1) := by decide +kernel
theorem dG_isMember_11 : decode prog_1_method_19_code 11 = .ok (.goto 4, 3) := by decide +kernel
theorem dG_isMember_14 : decode prog_1_method_19_code 14 = .ok (.iconst 0, 1) := by decide +kernel
theorem dG_isMember_15 : decode prog_1_method_19_code 15 = .ok (.ireturn, 1) := by decide +kernel
theorem dG_gather_0 : decode prog_1_method_38_code 0 = .ok (.aload_n 0, 1) := by decide +kernel
theorem dG_gather_1 : decode prog_1_method_38_code 1 = .ok (.getfield 18, 3) := by decide +kernel
theorem dG_gather_4 : decode prog_1_method_38_code 4 = .ok (.iload_n 1, 1) := by decide +kernel
theorem dG_gather_5 : decode prog_1_method_38_code 5 = .ok (.aaload, 1) := by decide +kernel
theorem dG_gather_6 : decode prog_1_method_38_code 6 = .ok (.aload_n 0, 1) := by decide +kernel
theorem dG_gather_7 : decode prog_1_method_38_code 7 = .ok (.getfield 44, 3) := by decide +kernel
theorem dG_gather_10 : decode prog_1_method_38_code 10 = .ok (.invokevirtual 324, 3) := by decide +kernel
theorem dG_gather_13 : decode prog_1_method_38_code 13 = .ok (.istore_n 2, 1) := by decide +kernel
theorem dG_gather_14 : decode prog_1_method_38_code 14 = .ok (.iconst 0, 1) := by decide +kernel
theorem dG_gather_15 : decode prog_1_method_38_code 15 = .ok (.istore_n 3, 1) := by decide +kernel
theorem dG_gather_16 : decode prog_1_method_38_code 16 = .ok (.iload_n 3, 1) := by decide +kernel
theorem dG_gather_17 : decode prog_1_method_38_code 17 = .ok (.aload_n 0, 1) := by decide +kernel
theorem dG_gather_18 : decode prog_1_method_38_code 18 = .ok (.getfield 90, 3) := by decide +kernel
theorem dG_gather_21 : decode prog_1_method_38_code 21 = .ok (.if_icmp .ge 78, 3) := by decide +kernel
theorem dG_gather_24 : decode prog_1_method_38_code 24 = .ok (.aload_n 0, 1) := by decide +kernel
theorem dG_gather_25 : decode prog_1_method_38_code 25 = .ok (.getfield 30, 3) := by decide +kernel
theorem dG_gather_28 : decode prog_1_method_38_code 28 = .ok (.iload_n 3, 1) := by decide +kernel
theorem dG_gather_29 : decode prog_1_method_38_code 29 = .ok (.aaload, 1) := by decide +kernel
theorem dG_gather_30 : decode prog_1_method_38_code 30 = .ok (.getfield 263, 3) := by decide +kernel
theorem dG_gather_33 : decode prog_1_method_38_code 33 = .ok (.iload_n 1, 1) := by decide +kernel
theorem dG_gather_34 : decode prog_1_method_38_code 34 = .ok (.if_icmp .ne 59, 3) := by decide +kernel
theorem dG_gather_37 : decode prog_1_method_38_code 37 = .ok (.aload_n 0, 1) := by decide +kernel
theorem dG_gather_38 : decode prog_1_method_38_code 38 = .ok (.getfield 30, 3) := by decide +kernel
theorem dG_gather_41 : decode prog_1_method_38_code 41 = .ok (.iload_n 3, 1) := by decide +kernel
theorem dG_gather_42 : decode prog_1_method_38_code 42 = .ok (.aaload, 1) := by decide +kernel
theorem dG_gather_43 : decode prog_1_method_38_code 43 = .ok (.getfield 314, 3) := by decide +kernel
theorem dG_gather_46 : decode prog_1_method_38_code 46 = .ok (.ifCond .ne 47, 3) := by decide +kernel
theorem dG_gather_49 : decode prog_1_method_38_code 49 = .ok (.iload_n 2, 1) := by decide +kernel
theorem dG_gather_50 : decode prog_1_method_38_code 50 = .ok (.iconst 1, 1) := by decide +kernel
theorem dG_gather_51 : decode prog_1_method_38_code 51 = .ok (.iadd, 1) := by decide +kernel
theorem dG_gather_52 : decode prog_1_method_38_code 52 = .ok (.sipush 146, 3) := by decide +kernel
theorem dG_gather_55 : decode prog_1_method_38_code 55 = .ok (.if_icmp .ge 38, 3) := by decide +kernel
theorem dG_gather_58 : decode prog_1_method_38_code 58 = .ok (.aload_n 0, 1) := by decide +kernel
theorem dG_gather_59 : decode prog_1_method_38_code 59 = .ok (.getfield 44, 3) := by decide +kernel
theorem dG_gather_62 : decode prog_1_method_38_code 62 = .ok (.iload_n 2, 1) := by decide +kernel
theorem dG_gather_63 : decode prog_1_method_38_code 63 = .ok (.aload_n 0, 1) := by decide +kernel
theorem dG_gather_64 : decode prog_1_method_38_code 64 = .ok (.getfield 30, 3) := by decide +kernel
theorem dG_gather_67 : decode prog_1_method_38_code 67 = .ok (.iload_n 3, 1) := by decide +kernel
theorem dG_gather_68 : decode prog_1_method_38_code 68 = .ok (.aaload, 1) := by decide +kernel
theorem dG_gather_69 : decode prog_1_method_38_code 69 = .ok (.getfield 305, 3) := by decide +kernel
theorem dG_gather_72 : decode prog_1_method_38_code 72 = .ok (.iastore, 1) := by decide +kernel
theorem dG_gather_73 : decode prog_1_method_38_code 73 = .ok (.aload_n 0, 1) := by decide +kernel
theorem dG_gather_74 : decode prog_1_method_38_code 74 = .ok (.getfield 44, 3) := by decide +kernel
theorem dG_gather_77 : decode prog_1_method_38_code 77 = .ok (.iload_n 2, 1) := by decide +kernel
theorem dG_gather_78 : decode prog_1_method_38_code 78 = .ok (.iconst 1, 1) := by decide +kernel
theorem dG_gather_79 : decode prog_1_method_38_code 79 = .ok (.iadd, 1) := by decide +kernel
theorem dG_gather_80 : decode prog_1_method_38_code 80 = .ok (.aload_n 0, 1) := by decide +kernel
theorem dG_gather_81 : decode prog_1_method_38_code 81 = .ok (.getfield 30, 3) := by decide +kernel
theorem dG_gather_84 : decode prog_1_method_38_code 84 = .ok (.iload_n 3, 1) := by decide +kernel
theorem dG_gather_85 : decode prog_1_method_38_code 85 = .ok (.aaload, 1) := by decide +kernel
theorem dG_gather_86 : decode prog_1_method_38_code 86 = .ok (.getfield 272, 3) := by decide +kernel
theorem dG_gather_89 : decode prog_1_method_38_code 89 = .ok (.iastore, 1) := by decide +kernel
theorem dG_gather_90 : decode prog_1_method_38_code 90 = .ok (.iinc 2 2, 3) := by decide +kernel
theorem dG_gather_93 : decode prog_1_method_38_code 93 = .ok (.iinc 3 1, 3) := by decide +kernel
theorem dG_gather_96 : decode prog_1_method_38_code 96 = .ok (.goto (-80), 3) := by decide +kernel
theorem dG_gather_99 : decode prog_1_method_38_code 99 = .ok (.iload_n 2, 1) := by decide +kernel
theorem dG_gather_100 : decode prog_1_method_38_code 100 = .ok (.ireturn, 1) := by decide +kernel
theorem dG_holds_0 : decode prog_1_method_10_code 0 = .ok (.iload_n 1, 1) := by decide +kernel
theorem dG_holds_1 : decode prog_1_method_10_code 1 = .ok (.invokestatic 83, 3) := by decide +kernel
theorem dG_holds_4 : decode prog_1_method_10_code 4 = .ok (.ifCond .eq 19, 3) := by decide +kernel
theorem dG_holds_7 : decode prog_1_method_10_code 7 = .ok (.aload_n 0, 1) := by decide +kernel
theorem dG_holds_8 : decode prog_1_method_10_code 8 = .ok (.aload_n 0, 1) := by decide +kernel
theorem dG_holds_9 : decode prog_1_method_10_code 9 = .ok (.getfield 18, 3) := by decide +kernel
theorem dG_holds_12 : decode prog_1_method_10_code 12 = .ok (.iload_n 1, 1) := by decide +kernel
theorem dG_holds_13 : decode prog_1_method_10_code 13 = .ok (.aaload, 1) := by decide +kernel
theorem dG_holds_14 : decode prog_1_method_10_code 14 = .ok (.getfield 161, 3) := by decide +kernel
theorem dG_holds_17 : decode prog_1_method_10_code 17 = .ok (.invokevirtual 184, 3) := by decide +kernel
theorem dG_holds_20 : decode prog_1_method_10_code 20 = .ok (.ifCond .ne 5, 3) := by decide +kernel
theorem dG_holds_23 : decode prog_1_method_10_code 23 = .ok (.iconst 0, 1) := by decide +kernel
theorem dG_holds_24 : decode prog_1_method_10_code 24 = .ok (.ireturn, 1) := by decide +kernel
theorem dG_holds_25 : decode prog_1_method_10_code 25 = .ok (.aload_n 0, 1) := by decide +kernel
theorem dG_holds_26 : decode prog_1_method_10_code 26 = .ok (.getfield 24, 3) := by decide +kernel
theorem dG_holds_29 : decode prog_1_method_10_code 29 = .ok (.aload_n 0, 1) := by decide +kernel
theorem dG_holds_30 : decode prog_1_method_10_code 30 = .ok (.getfield 18, 3) := by decide +kernel
theorem dG_holds_33 : decode prog_1_method_10_code 33 = .ok (.iload_n 1, 1) := by decide +kernel
theorem dG_holds_34 : decode prog_1_method_10_code 34 = .ok (.aaload, 1) := by decide +kernel
theorem dG_holds_35 : decode prog_1_method_10_code 35 = .ok (.getfield 161, 3) := by decide +kernel
theorem dG_holds_38 : decode prog_1_method_10_code 38 = .ok (.aaload, 1) := by decide +kernel
theorem dG_holds_39 : decode prog_1_method_10_code 39 = .ok (.getfield 60, 3) := by decide +kernel
theorem dG_holds_42 : decode prog_1_method_10_code 42 = .ok (.iload_n 2, 1) := by decide +kernel
theorem dG_holds_43 : decode prog_1_method_10_code 43 = .ok (.invokevirtual 187, 3) := by decide +kernel
theorem dG_holds_46 : decode prog_1_method_10_code 46 = .ok (.istore_n 3, 1) := by decide +kernel
theorem dG_holds_47 : decode prog_1_method_10_code 47 = .ok (.iload_n 3, 1) := by decide +kernel
theorem dG_holds_48 : decode prog_1_method_10_code 48 = .ok (.iconst (-1), 1) := by decide +kernel
theorem dG_holds_49 : decode prog_1_method_10_code 49 = .ok (.if_icmp .ne 5, 3) := by decide +kernel
theorem dG_holds_52 : decode prog_1_method_10_code 52 = .ok (.iconst 0, 1) := by decide +kernel
theorem dG_holds_53 : decode prog_1_method_10_code 53 = .ok (.ireturn, 1) := by decide +kernel
theorem dG_holds_54 : decode prog_1_method_10_code 54 = .ok (.aload_n 0, 1) := by decide +kernel
theorem dG_holds_55 : decode prog_1_method_10_code 55 = .ok (.iload_n 1, 1) := by decide +kernel
theorem dG_holds_56 : decode prog_1_method_10_code 56 = .ok (.invokevirtual 175, 3) := by decide +kernel
theorem dG_holds_59 : decode prog_1_method_10_code 59 = .ok (.istore 4, 2) := by decide +kernel
theorem dG_holds_61 : decode prog_1_method_10_code 61 = .ok (.iconst 0, 1) := by decide +kernel
theorem dG_holds_62 : decode prog_1_method_10_code 62 = .ok (.istore 5, 2) := by decide +kernel
theorem dG_holds_64 : decode prog_1_method_10_code 64 = .ok (.iload 5, 2) := by decide +kernel
theorem dG_holds_66 : decode prog_1_method_10_code 66 = .ok (.iload 4, 2) := by decide +kernel
theorem dG_holds_68 : decode prog_1_method_10_code 68 = .ok (.if_icmp .ge 22, 3) := by decide +kernel
theorem dG_holds_71 : decode prog_1_method_10_code 71 = .ok (.aload_n 0, 1) := by decide +kernel
theorem dG_holds_72 : decode prog_1_method_10_code 72 = .ok (.getfield 44, 3) := by decide +kernel
theorem dG_holds_75 : decode prog_1_method_10_code 75 = .ok (.iload 5, 2) := by decide +kernel
theorem dG_holds_77 : decode prog_1_method_10_code 77 = .ok (.iaload, 1) := by decide +kernel
theorem dG_holds_78 : decode prog_1_method_10_code 78 = .ok (.iload_n 3, 1) := by decide +kernel
theorem dG_holds_79 : decode prog_1_method_10_code 79 = .ok (.if_icmp .ne 5, 3) := by decide +kernel
theorem dG_holds_82 : decode prog_1_method_10_code 82 = .ok (.iconst 1, 1) := by decide +kernel
theorem dG_holds_83 : decode prog_1_method_10_code 83 = .ok (.ireturn, 1) := by decide +kernel
theorem dG_holds_84 : decode prog_1_method_10_code 84 = .ok (.iinc 5 1, 3) := by decide +kernel
theorem dG_holds_87 : decode prog_1_method_10_code 87 = .ok (.goto (-23), 3) := by decide +kernel
theorem dG_holds_90 : decode prog_1_method_10_code 90 = .ok (.iconst 0, 1) := by decide +kernel
theorem dG_holds_91 : decode prog_1_method_10_code 91 = .ok (.ireturn, 1) := by decide +kernel
theorem dG_isEpoch_0 : decode prog_1_method_20_code 0 = .ok (.iload_n 1, 1) := by decide +kernel
theorem dG_isEpoch_1 : decode prog_1_method_20_code 1 = .ok (.ifCond .lt 15, 3) := by decide +kernel
theorem dG_isEpoch_4 : decode prog_1_method_20_code 4 = .ok (.iload_n 1, 1) := by decide +kernel
theorem dG_isEpoch_5 : decode prog_1_method_20_code 5 = .ok (.aload_n 0, 1) := by decide +kernel
theorem dG_isEpoch_6 : decode prog_1_method_20_code 6 = .ok (.getfield 76, 3) := by decide +kernel
theorem dG_isEpoch_9 : decode prog_1_method_20_code 9 = .ok (.if_icmp .ge 7, 3) := by decide +kernel
theorem dG_isEpoch_12 : decode prog_1_method_20_code 12 = .ok (.iconst 1, 1) := by decide +kernel
theorem dG_isEpoch_13 : decode prog_1_method_20_code 13 = .ok (.goto 4, 3) := by decide +kernel
theorem dG_isEpoch_16 : decode prog_1_method_20_code 16 = .ok (.iconst 0, 1) := by decide +kernel
theorem dG_isEpoch_17 : decode prog_1_method_20_code 17 = .ok (.ireturn, 1) := by decide +kernel
theorem dG_has_0 : decode prog_1_method_11_code 0 = .ok (.iload_n 1, 1) := by decide +kernel
theorem dG_has_1 : decode prog_1_method_11_code 1 = .ok (.invokestatic 83, 3) := by decide +kernel
theorem dG_has_4 : decode prog_1_method_11_code 4 = .ok (.ifCond .eq 20, 3) := by decide +kernel
theorem dG_has_7 : decode prog_1_method_11_code 7 = .ok (.aload_n 0, 1) := by decide +kernel
theorem dG_has_8 : decode prog_1_method_11_code 8 = .ok (.getfield 18, 3) := by decide +kernel
theorem dG_has_11 : decode prog_1_method_11_code 11 = .ok (.iload_n 1, 1) := by decide +kernel
theorem dG_has_12 : decode prog_1_method_11_code 12 = .ok (.aaload, 1) := by decide +kernel
theorem dG_has_13 : decode prog_1_method_11_code 13 = .ok (.getfield 190, 3) := by decide +kernel
theorem dG_has_16 : decode prog_1_method_11_code 16 = .ok (.iconst (-1), 1) := by decide +kernel
theorem dG_has_17 : decode prog_1_method_11_code 17 = .ok (.if_icmp .eq 7, 3) := by decide +kernel
theorem dG_has_20 : decode prog_1_method_11_code 20 = .ok (.iconst 1, 1) := by decide +kernel
theorem dG_has_21 : decode prog_1_method_11_code 21 = .ok (.goto 4, 3) := by decide +kernel
theorem dG_has_24 : decode prog_1_method_11_code 24 = .ok (.iconst 0, 1) := by decide +kernel
theorem dG_has_25 : decode prog_1_method_11_code 25 = .ok (.ireturn, 1) := by decide +kernel
theorem dG_node_0 : decode prog_1_method_12_code 0 = .ok (.aload_n 0, 1) := by decide +kernel
theorem dG_node_1 : decode prog_1_method_12_code 1 = .ok (.iload_n 1, 1) := by decide +kernel
theorem dG_node_2 : decode prog_1_method_12_code 2 = .ok (.invokevirtual 184, 3) := by decide +kernel
theorem dG_node_5 : decode prog_1_method_12_code 5 = .ok (.ifCond .eq 19, 3) := by decide +kernel
theorem dG_node_8 : decode prog_1_method_12_code 8 = .ok (.aload_n 0, 1) := by decide +kernel
theorem dG_node_9 : decode prog_1_method_12_code 9 = .ok (.getfield 24, 3) := by decide +kernel
theorem dG_node_12 : decode prog_1_method_12_code 12 = .ok (.iload_n 1, 1) := by decide +kernel
theorem dG_node_13 : decode prog_1_method_12_code 13 = .ok (.aaload, 1) := by decide +kernel
theorem dG_node_14 : decode prog_1_method_12_code 14 = .ok (.getfield 60, 3) := by decide +kernel
theorem dG_node_17 : decode prog_1_method_12_code 17 = .ok (.iload_n 2, 1) := by decide +kernel
theorem dG_node_18 : decode prog_1_method_12_code 18 = .ok (.invokevirtual 191, 3) := by decide +kernel
theorem dG_node_21 : decode prog_1_method_12_code 21 = .ok (.ifCond .ne 5, 3) := by decide +kernel
theorem dG_node_24 : decode prog_1_method_12_code 24 = .ok (.iconst (-1), 1) := by decide +kernel
theorem dG_node_25 : decode prog_1_method_12_code 25 = .ok (.ireturn, 1) := by decide +kernel
theorem dG_node_26 : decode prog_1_method_12_code 26 = .ok (.aload_n 0, 1) := by decide +kernel
theorem dG_node_27 : decode prog_1_method_12_code 27 = .ok (.getfield 24, 3) := by decide +kernel
theorem dG_node_30 : decode prog_1_method_12_code 30 = .ok (.iload_n 1, 1) := by decide +kernel
theorem dG_node_31 : decode prog_1_method_12_code 31 = .ok (.aaload, 1) := by decide +kernel
theorem dG_node_32 : decode prog_1_method_12_code 32 = .ok (.getfield 60, 3) := by decide +kernel
theorem dG_node_35 : decode prog_1_method_12_code 35 = .ok (.astore 4, 2) := by decide +kernel
theorem dG_node_37 : decode prog_1_method_12_code 37 = .ok (.iload_n 3, 1) := by decide +kernel
theorem dG_node_38 : decode prog_1_method_12_code 38 = .ok (.tableswitch 74 0 3 #[30, 46, 53, 60], 30) := by decide +kernel
theorem dG_node_68 : decode prog_1_method_12_code 68 = .ok (.aload 4, 2) := by decide +kernel
theorem dG_node_70 : decode prog_1_method_12_code 70 = .ok (.iload_n 2, 1) := by decide +kernel
theorem dG_node_71 : decode prog_1_method_12_code 71 = .ok (.invokevirtual 187, 3) := by decide +kernel
theorem dG_node_74 : decode prog_1_method_12_code 74 = .ok (.iconst (-1), 1) := by decide +kernel
theorem dG_node_75 : decode prog_1_method_12_code 75 = .ok (.if_icmp .ne 7, 3) := by decide +kernel
theorem dG_node_78 : decode prog_1_method_12_code 78 = .ok (.iconst 0, 1) := by decide +kernel
theorem dG_node_79 : decode prog_1_method_12_code 79 = .ok (.goto 4, 3) := by decide +kernel
theorem dG_node_82 : decode prog_1_method_12_code 82 = .ok (.iconst 1, 1) := by decide +kernel
theorem dG_node_83 : decode prog_1_method_12_code 83 = .ok (.ireturn, 1) := by decide +kernel
theorem dG_node_84 : decode prog_1_method_12_code 84 = .ok (.aload 4, 2) := by decide +kernel
theorem dG_node_86 : decode prog_1_method_12_code 86 = .ok (.iload_n 2, 1) := by decide +kernel
theorem dG_node_87 : decode prog_1_method_12_code 87 = .ok (.invokevirtual 194, 3) := by decide +kernel
theorem dG_node_90 : decode prog_1_method_12_code 90 = .ok (.ireturn, 1) := by decide +kernel
theorem dG_node_91 : decode prog_1_method_12_code 91 = .ok (.aload 4, 2) := by decide +kernel
theorem dG_node_93 : decode prog_1_method_12_code 93 = .ok (.iload_n 2, 1) := by decide +kernel
theorem dG_node_94 : decode prog_1_method_12_code 94 = .ok (.invokevirtual 197, 3) := by decide +kernel
theorem dG_node_97 : decode prog_1_method_12_code 97 = .ok (.ireturn, 1) := by decide +kernel
theorem dG_node_98 : decode prog_1_method_12_code 98 = .ok (.aload 4, 2) := by decide +kernel
theorem dG_node_100 : decode prog_1_method_12_code 100 = .ok (.iload_n 2, 1) := by decide +kernel
theorem dG_node_101 : decode prog_1_method_12_code 101 = .ok (.iload_n 2, 1) := by decide +kernel
theorem dG_node_102 : decode prog_1_method_12_code 102 = .ok (.invokestatic 200, 3) := by decide +kernel
theorem dG_node_105 : decode prog_1_method_12_code 105 = .ok (.invokevirtual 203, 3) := by decide +kernel
theorem dG_node_108 : decode prog_1_method_12_code 108 = .ok (.invokestatic 207, 3) := by decide +kernel
theorem dG_node_111 : decode prog_1_method_12_code 111 = .ok (.ireturn, 1) := by decide +kernel
theorem dG_node_112 : decode prog_1_method_12_code 112 = .ok (.iconst (-1), 1) := by decide +kernel
theorem dG_node_113 : decode prog_1_method_12_code 113 = .ok (.ireturn, 1) := by decide +kernel
theorem dG_heightOf_0 : decode prog_1_method_43_code 0 = .ok (.iload_n 0, 1) := by decide +kernel
theorem dG_heightOf_1 : decode prog_1_method_43_code 1 = .ok (.iload_n 0, 1) := by decide +kernel
theorem dG_heightOf_2 : decode prog_1_method_43_code 2 = .ok (.iconst 1, 1) := by decide +kernel
theorem dG_heightOf_3 : decode prog_1_method_43_code 3 = .ok (.iadd, 1) := by decide +kernel
theorem dG_heightOf_4 : decode prog_1_method_43_code 4 = .ok (.iconst (-1), 1) := by decide +kernel
theorem dG_heightOf_5 : decode prog_1_method_43_code 5 = .ok (.ixor, 1) := by decide +kernel
theorem dG_heightOf_6 : decode prog_1_method_43_code 6 = .ok (.iand, 1) := by decide +kernel
theorem dG_heightOf_7 : decode prog_1_method_43_code 7 = .ok (.invokestatic 207, 3) := by decide +kernel
theorem dG_heightOf_10 : decode prog_1_method_43_code 10 = .ok (.ireturn, 1) := by decide +kernel
theorem dG_bit_0 : decode prog_1_method_39_code 0 = .ok (.iconst 1, 1) := by decide +kernel
theorem dG_bit_1 : decode prog_1_method_39_code 1 = .ok (.iload_n 0, 1) := by decide +kernel
theorem dG_bit_2 : decode prog_1_method_39_code 2 = .ok (.ishl, 1) := by decide +kernel
theorem dG_bit_3 : decode prog_1_method_39_code 3 = .ok (.ireturn, 1) := by decide +kernel
theorem dG_leafNodes_0 : decode prog_1_method_44_code 0 = .ok (.iconst 0, 1) := by decide +kernel
theorem dG_leafNodes_1 : decode prog_1_method_44_code 1 = .ok (.istore_n 1, 1) := by decide +kernel
theorem dG_leafNodes_2 : decode prog_1_method_44_code 2 = .ok (.iconst 0, 1) := by decide +kernel
theorem dG_leafNodes_3 : decode prog_1_method_44_code 3 = .ok (.istore_n 2, 1) := by decide +kernel
theorem dG_leafNodes_4 : decode prog_1_method_44_code 4 = .ok (.iload_n 2, 1) := by decide +kernel
theorem dG_leafNodes_5 : decode prog_1_method_44_code 5 = .ok (.bipush 16, 2) := by decide +kernel
theorem dG_leafNodes_7 : decode prog_1_method_44_code 7 = .ok (.if_icmp .ge 28, 3) := by decide +kernel
theorem dG_leafNodes_10 : decode prog_1_method_44_code 10 = .ok (.iload_n 0, 1) := by decide +kernel
theorem dG_leafNodes_11 : decode prog_1_method_44_code 11 = .ok (.iload_n 2, 1) := by decide +kernel
theorem dG_leafNodes_12 : decode prog_1_method_44_code 12 = .ok (.invokestatic 239, 3) := by decide +kernel
theorem dG_leafNodes_15 : decode prog_1_method_44_code 15 = .ok (.iand, 1) := by decide +kernel
theorem dG_leafNodes_16 : decode prog_1_method_44_code 16 = .ok (.ifCond .eq 13, 3) := by decide +kernel
theorem dG_leafNodes_19 : decode prog_1_method_44_code 19 = .ok (.iload_n 1, 1) := by decide +kernel
theorem dG_leafNodes_20 : decode prog_1_method_44_code 20 = .ok (.iload_n 2, 1) := by decide +kernel
theorem dG_leafNodes_21 : decode prog_1_method_44_code 21 = .ok (.invokestatic 233, 3) := by decide +kernel
theorem dG_leafNodes_24 : decode prog_1_method_44_code 24 = .ok (.invokestatic 239, 3) := by decide +kernel
theorem dG_leafNodes_27 : decode prog_1_method_44_code 27 = .ok (.ior, 1) := by decide +kernel
theorem dG_leafNodes_28 : decode prog_1_method_44_code 28 = .ok (.istore_n 1, 1) := by decide +kernel
theorem dG_leafNodes_29 : decode prog_1_method_44_code 29 = .ok (.iinc 2 1, 3) := by decide +kernel
theorem dG_leafNodes_32 : decode prog_1_method_44_code 32 = .ok (.goto (-28), 3) := by decide +kernel
theorem dG_leafNodes_35 : decode prog_1_method_44_code 35 = .ok (.iload_n 1, 1) := by decide +kernel
theorem dG_leafNodes_36 : decode prog_1_method_44_code 36 = .ok (.ireturn, 1) := by decide +kernel
theorem dG_epoch_0 : decode prog_1_method_13_code 0 = .ok (.aload_n 0, 1) := by decide +kernel
theorem dG_epoch_1 : decode prog_1_method_13_code 1 = .ok (.iload_n 1, 1) := by decide +kernel
theorem dG_epoch_2 : decode prog_1_method_13_code 2 = .ok (.invokevirtual 184, 3) := by decide +kernel
theorem dG_epoch_5 : decode prog_1_method_13_code 5 = .ok (.ifCond .ne 5, 3) := by decide +kernel
theorem dG_epoch_8 : decode prog_1_method_13_code 8 = .ok (.iconst (-1), 1) := by decide +kernel
theorem dG_epoch_9 : decode prog_1_method_13_code 9 = .ok (.ireturn, 1) := by decide +kernel
theorem dG_epoch_10 : decode prog_1_method_13_code 10 = .ok (.aload_n 0, 1) := by decide +kernel
theorem dG_epoch_11 : decode prog_1_method_13_code 11 = .ok (.getfield 24, 3) := by decide +kernel
theorem dG_epoch_14 : decode prog_1_method_13_code 14 = .ok (.iload_n 1, 1) := by decide +kernel
theorem dG_epoch_15 : decode prog_1_method_13_code 15 = .ok (.aaload, 1) := by decide +kernel
theorem dG_epoch_16 : decode prog_1_method_13_code 16 = .ok (.astore_n 3, 1) := by decide +kernel
theorem dG_epoch_17 : decode prog_1_method_13_code 17 = .ok (.iload_n 2, 1) := by decide +kernel
theorem dG_epoch_18 : decode prog_1_method_13_code 18 = .ok (.tableswitch 80 0 6 #[42, 50, 55, 60, 65, 70, 75], 42) := by decide +kernel
theorem dG_epoch_60 : decode prog_1_method_13_code 60 = .ok (.aload_n 3, 1) := by decide +kernel
theorem dG_epoch_61 : decode prog_1_method_13_code 61 = .ok (.getfield 60, 3) := by decide +kernel
theorem dG_epoch_64 : decode prog_1_method_13_code 64 = .ok (.getfield 212, 3) := by decide +kernel
theorem dG_epoch_67 : decode prog_1_method_13_code 67 = .ok (.ireturn, 1) := by decide +kernel
theorem dG_epoch_68 : decode prog_1_method_13_code 68 = .ok (.aload_n 3, 1) := by decide +kernel
theorem dG_epoch_69 : decode prog_1_method_13_code 69 = .ok (.getfield 215, 3) := by decide +kernel
theorem dG_epoch_72 : decode prog_1_method_13_code 72 = .ok (.ireturn, 1) := by decide +kernel
theorem dG_epoch_73 : decode prog_1_method_13_code 73 = .ok (.aload_n 3, 1) := by decide +kernel
theorem dG_epoch_74 : decode prog_1_method_13_code 74 = .ok (.getfield 218, 3) := by decide +kernel
theorem dG_epoch_77 : decode prog_1_method_13_code 77 = .ok (.ireturn, 1) := by decide +kernel
theorem dG_epoch_78 : decode prog_1_method_13_code 78 = .ok (.aload_n 3, 1) := by decide +kernel
theorem dG_epoch_79 : decode prog_1_method_13_code 79 = .ok (.getfield 132, 3) := by decide +kernel
theorem dG_epoch_82 : decode prog_1_method_13_code 82 = .ok (.ireturn, 1) := by decide +kernel
theorem dG_epoch_83 : decode prog_1_method_13_code 83 = .ok (.aload_n 3, 1) := by decide +kernel
theorem dG_epoch_84 : decode prog_1_method_13_code 84 = .ok (.getfield 135, 3) := by decide +kernel
theorem dG_epoch_87 : decode prog_1_method_13_code 87 = .ok (.ireturn, 1) := by decide +kernel
theorem dG_epoch_88 : decode prog_1_method_13_code 88 = .ok (.aload_n 3, 1) := by decide +kernel
theorem dG_epoch_89 : decode prog_1_method_13_code 89 = .ok (.getfield 138, 3) := by decide +kernel
theorem dG_epoch_92 : decode prog_1_method_13_code 92 = .ok (.ireturn, 1) := by decide +kernel
theorem dG_epoch_93 : decode prog_1_method_13_code 93 = .ok (.aload_n 3, 1) := by decide +kernel
theorem dG_epoch_94 : decode prog_1_method_13_code 94 = .ok (.getfield 221, 3) := by decide +kernel
theorem dG_epoch_97 : decode prog_1_method_13_code 97 = .ok (.ireturn, 1) := by decide +kernel
theorem dG_epoch_98 : decode prog_1_method_13_code 98 = .ok (.iconst (-1), 1) := by decide +kernel
theorem dG_epoch_99 : decode prog_1_method_13_code 99 = .ok (.ireturn, 1) := by decide +kernel
theorem dG_epochs_0 : decode prog_1_method_14_code 0 = .ok (.aload_n 0, 1) := by decide +kernel
theorem dG_epochs_1 : decode prog_1_method_14_code 1 = .ok (.getfield 76, 3) := by decide +kernel
theorem dG_epochs_4 : decode prog_1_method_14_code 4 = .ok (.ireturn, 1) := by decide +kernel
theorem dG_waiting_0 : decode prog_1_method_15_code 0 = .ok (.aload_n 0, 1) := by decide +kernel
theorem dG_waiting_1 : decode prog_1_method_15_code 1 = .ok (.getfield 152, 3) := by decide +kernel
theorem dG_waiting_4 : decode prog_1_method_15_code 4 = .ok (.ireturn, 1) := by decide +kernel
theorem dG_isKnown_0 : decode prog_1_method_16_code 0 = .ok (.aload_n 0, 1) := by decide +kernel
theorem dG_isKnown_1 : decode prog_1_method_16_code 1 = .ok (.iload_n 1, 1) := by decide +kernel
theorem dG_isKnown_2 : decode prog_1_method_16_code 2 = .ok (.invokevirtual 184, 3) := by decide +kernel
theorem dG_isKnown_5 : decode prog_1_method_16_code 5 = .ok (.ifCond .eq 26, 3) := by decide +kernel
theorem dG_isKnown_8 : decode prog_1_method_16_code 8 = .ok (.aload_n 0, 1) := by decide +kernel
theorem dG_isKnown_9 : decode prog_1_method_16_code 9 = .ok (.getfield 12, 3) := by decide +kernel
theorem dG_isKnown_12 : decode prog_1_method_16_code 12 = .ok (.aload_n 0, 1) := by decide +kernel
theorem dG_isKnown_13 : decode prog_1_method_16_code 13 = .ok (.getfield 24, 3) := by decide +kernel
theorem dG_isKnown_16 : decode prog_1_method_16_code 16 = .ok (.iload_n 1, 1) := by decide +kernel
theorem dG_isKnown_17 : decode prog_1_method_16_code 17 = .ok (.aaload, 1) := by decide +kernel
theorem dG_isKnown_18 : decode prog_1_method_16_code 18 = .ok (.getfield 72, 3) := by decide +kernel
theorem dG_isKnown_21 : decode prog_1_method_16_code 21 = .ok (.invokevirtual 224, 3) := by decide +kernel
theorem dG_isKnown_24 : decode prog_1_method_16_code 24 = .ok (.ifCond .eq 7, 3) := by decide +kernel
theorem dG_isKnown_27 : decode prog_1_method_16_code 27 = .ok (.iconst 1, 1) := by decide +kernel
theorem dG_isKnown_28 : decode prog_1_method_16_code 28 = .ok (.goto 4, 3) := by decide +kernel
theorem dG_isKnown_31 : decode prog_1_method_16_code 31 = .ok (.iconst 0, 1) := by decide +kernel
theorem dG_isKnown_32 : decode prog_1_method_16_code 32 = .ok (.ireturn, 1) := by decide +kernel
theorem dG_isOpen_0 : decode prog_1_method_17_code 0 = .ok (.aload_n 0, 1) := by decide +kernel
theorem dG_isOpen_1 : decode prog_1_method_17_code 1 = .ok (.iload_n 1, 1) := by decide +kernel
theorem dG_isOpen_2 : decode prog_1_method_17_code 2 = .ok (.invokevirtual 184, 3) := by decide +kernel
theorem dG_isOpen_5 : decode prog_1_method_17_code 5 = .ok (.ifCond .eq 30, 3) := by decide +kernel
theorem dG_isOpen_8 : decode prog_1_method_17_code 8 = .ok (.aload_n 0, 1) := by decide +kernel
theorem dG_isOpen_9 : decode prog_1_method_17_code 9 = .ok (.getfield 12, 3) := by decide +kernel
theorem dG_isOpen_12 : decode prog_1_method_17_code 12 = .ok (.aload_n 0, 1) := by decide +kernel
theorem dG_isOpen_13 : decode prog_1_method_17_code 13 = .ok (.getfield 24, 3) := by decide +kernel
theorem dG_isOpen_16 : decode prog_1_method_17_code 16 = .ok (.iload_n 1, 1) := by decide +kernel
theorem dG_isOpen_17 : decode prog_1_method_17_code 17 = .ok (.aaload, 1) := by decide +kernel
theorem dG_isOpen_18 : decode prog_1_method_17_code 18 = .ok (.getfield 60, 3) := by decide +kernel
theorem dG_isOpen_21 : decode prog_1_method_17_code 21 = .ok (.iload_n 2, 1) := by decide +kernel
theorem dG_isOpen_22 : decode prog_1_method_17_code 22 = .ok (.invokevirtual 187, 3) := by decide +kernel
theorem dG_isOpen_25 : decode prog_1_method_17_code 25 = .ok (.invokevirtual 224, 3) := by decide +kernel
theorem dG_isOpen_28 : decode prog_1_method_17_code 28 = .ok (.ifCond .eq 7, 3) := by decide +kernel
theorem dG_isOpen_31 : decode prog_1_method_17_code 31 = .ok (.iconst 1, 1) := by decide +kernel
theorem dG_isOpen_32 : decode prog_1_method_17_code 32 = .ok (.goto 4, 3) := by decide +kernel
theorem dG_isOpen_35 : decode prog_1_method_17_code 35 = .ok (.iconst 0, 1) := by decide +kernel
theorem dG_isOpen_36 : decode prog_1_method_17_code 36 = .ok (.ireturn, 1) := by decide +kernel
theorem dG_known_0 : decode prog_1_method_18_code 0 = .ok (.iconst 0, 1) := by decide +kernel
theorem dG_known_1 : decode prog_1_method_18_code 1 = .ok (.istore_n 1, 1) := by decide +kernel
theorem dG_known_2 : decode prog_1_method_18_code 2 = .ok (.iconst 0, 1) := by decide +kernel
theorem dG_known_3 : decode prog_1_method_18_code 3 = .ok (.istore_n 2, 1) := by decide +kernel
theorem dG_known_4 : decode prog_1_method_18_code 4 = .ok (.iload_n 2, 1) := by decide +kernel
theorem dG_known_5 : decode prog_1_method_18_code 5 = .ok (.aload_n 0, 1) := by decide +kernel
theorem dG_known_6 : decode prog_1_method_18_code 6 = .ok (.getfield 76, 3) := by decide +kernel
theorem dG_known_9 : decode prog_1_method_18_code 9 = .ok (.if_icmp .ge 31, 3) := by decide +kernel
theorem dG_known_12 : decode prog_1_method_18_code 12 = .ok (.aload_n 0, 1) := by decide +kernel
theorem dG_known_13 : decode prog_1_method_18_code 13 = .ok (.getfield 12, 3) := by decide +kernel
theorem dG_known_16 : decode prog_1_method_18_code 16 = .ok (.aload_n 0, 1) := by decide +kernel
theorem dG_known_17 : decode prog_1_method_18_code 17 = .ok (.getfield 24, 3) := by decide +kernel
theorem dG_known_20 : decode prog_1_method_18_code 20 = .ok (.iload_n 2, 1) := by decide +kernel
theorem dG_known_21 : decode prog_1_method_18_code 21 = .ok (.aaload, 1) := by decide +kernel
theorem dG_known_22 : decode prog_1_method_18_code 22 = .ok (.getfield 72, 3) := by decide +kernel
theorem dG_known_25 : decode prog_1_method_18_code 25 = .ok (.invokevirtual 224, 3) := by decide +kernel
theorem dG_known_28 : decode prog_1_method_18_code 28 = .ok (.ifCond .eq 6, 3) := by decide +kernel
theorem dG_known_31 : decode prog_1_method_18_code 31 = .ok (.iinc 1 1, 3) := by decide +kernel
theorem dG_known_34 : decode prog_1_method_18_code 34 = .ok (.iinc 2 1, 3) := by decide +kernel
theorem dG_known_37 : decode prog_1_method_18_code 37 = .ok (.goto (-33), 3) := by decide +kernel
theorem dG_known_40 : decode prog_1_method_18_code 40 = .ok (.iload_n 1, 1) := by decide +kernel
theorem dG_known_41 : decode prog_1_method_18_code 41 = .ok (.ireturn, 1) := by decide +kernel
theorem dG_offer_0 : decode prog_1_method_2_code 0 = .ok (.iload_n 1, 1) := by decide +kernel
theorem dG_offer_1 : decode prog_1_method_2_code 1 = .ok (.invokestatic 83, 3) := by decide +kernel
theorem dG_offer_4 : decode prog_1_method_2_code 4 = .ok (.ifCond .ne 11, 3) := by decide +kernel
theorem dG_offer_7 : decode prog_1_method_2_code 7 = .ok (.new 87, 3) := by decide +kernel
theorem dG_offer_10 : decode prog_1_method_2_code 10 = .ok (.dup, 1) := by decide +kernel
theorem dG_offer_11 : decode prog_1_method_2_code 11 = .ok (.invokespecial 89, 3) := by decide +kernel
theorem dG_offer_14 : decode prog_1_method_2_code 14 = .ok (.athrow, 1) := by decide +kernel
theorem dG_offer_15 : decode prog_1_method_2_code 15 = .ok (.aload_n 0, 1) := by decide +kernel
theorem dG_offer_16 : decode prog_1_method_2_code 16 = .ok (.getfield 90, 3) := by decide +kernel
theorem dG_offer_19 : decode prog_1_method_2_code 19 = .ok (.bipush 60, 2) := by decide +kernel
theorem dG_offer_21 : decode prog_1_method_2_code 21 = .ok (.if_icmp .lt 11, 3) := by decide +kernel
theorem dG_offer_24 : decode prog_1_method_2_code 24 = .ok (.new 93, 3) := by decide +kernel
theorem dG_offer_27 : decode prog_1_method_2_code 27 = .ok (.dup, 1) := by decide +kernel
theorem dG_offer_28 : decode prog_1_method_2_code 28 = .ok (.invokespecial 95, 3) := by decide +kernel
theorem dG_offer_31 : decode prog_1_method_2_code 31 = .ok (.athrow, 1) := by decide +kernel
theorem dG_offer_32 : decode prog_1_method_2_code 32 = .ok (.aload_n 0, 1) := by decide +kernel
theorem dG_offer_33 : decode prog_1_method_2_code 33 = .ok (.getfield 12, 3) := by decide +kernel
theorem dG_offer_36 : decode prog_1_method_2_code 36 = .ok (.invokevirtual 64, 3) := by decide +kernel
theorem dG_offer_39 : decode prog_1_method_2_code 39 = .ok (.istore_n 2, 1) := by decide +kernel
theorem dG_offer_40 : decode prog_1_method_2_code 40 = .ok (.aload_n 0, 1) := by decide +kernel
theorem dG_offer_41 : decode prog_1_method_2_code 41 = .ok (.getfield 30, 3) := by decide +kernel
theorem dG_offer_44 : decode prog_1_method_2_code 44 = .ok (.aload_n 0, 1) := by decide +kernel
theorem dG_offer_45 : decode prog_1_method_2_code 45 = .ok (.getfield 90, 3) := by decide +kernel
theorem dG_offer_48 : decode prog_1_method_2_code 48 = .ok (.new 28, 3) := by decide +kernel
theorem dG_offer_51 : decode prog_1_method_2_code 51 = .ok (.dup, 1) := by decide +kernel
theorem dG_offer_52 : decode prog_1_method_2_code 52 = .ok (.iload_n 1, 1) := by decide +kernel
theorem dG_offer_53 : decode prog_1_method_2_code 53 = .ok (.iload_n 2, 1) := by decide +kernel
theorem dG_offer_54 : decode prog_1_method_2_code 54 = .ok (.aload_n 0, 1) := by decide +kernel
theorem dG_offer_55 : decode prog_1_method_2_code 55 = .ok (.getfield 12, 3) := by decide +kernel
theorem dG_offer_58 : decode prog_1_method_2_code 58 = .ok (.invokevirtual 64, 3) := by decide +kernel
theorem dG_offer_61 : decode prog_1_method_2_code 61 = .ok (.invokespecial 96, 3) := by decide +kernel
theorem dG_offer_64 : decode prog_1_method_2_code 64 = .ok (.aastore, 1) := by decide +kernel
theorem dG_offer_65 : decode prog_1_method_2_code 65 = .ok (.aload_n 0, 1) := by decide +kernel
theorem dG_offer_66 : decode prog_1_method_2_code 66 = .ok (.dup, 1) := by decide +kernel
theorem dG_offer_67 : decode prog_1_method_2_code 67 = .ok (.getfield 90, 3) := by decide +kernel
theorem dG_offer_70 : decode prog_1_method_2_code 70 = .ok (.iconst 1, 1) := by decide +kernel
theorem dG_offer_71 : decode prog_1_method_2_code 71 = .ok (.iadd, 1) := by decide +kernel
theorem dG_offer_72 : decode prog_1_method_2_code 72 = .ok (.putfield 90, 3) := by decide +kernel
theorem dG_offer_75 : decode prog_1_method_2_code 75 = .ok (.aload_n 0, 1) := by decide +kernel
theorem dG_offer_76 : decode prog_1_method_2_code 76 = .ok (.getfield 90, 3) := by decide +kernel
theorem dG_offer_79 : decode prog_1_method_2_code 79 = .ok (.iconst 1, 1) := by decide +kernel
theorem dG_offer_80 : decode prog_1_method_2_code 80 = .ok (.isub, 1) := by decide +kernel
theorem dG_offer_81 : decode prog_1_method_2_code 81 = .ok (.ireturn, 1) := by decide +kernel
theorem dG_add_0 : decode prog_1_method_3_code 0 = .ok (.iload_n 1, 1) := by decide +kernel
theorem dG_add_1 : decode prog_1_method_3_code 1 = .ok (.invokestatic 83, 3) := by decide +kernel
theorem dG_add_4 : decode prog_1_method_3_code 4 = .ok (.ifCond .eq 15, 3) := by decide +kernel
theorem dG_add_7 : decode prog_1_method_3_code 7 = .ok (.iload_n 2, 1) := by decide +kernel
theorem dG_add_8 : decode prog_1_method_3_code 8 = .ok (.ifCond .lt 11, 3) := by decide +kernel
theorem dG_add_11 : decode prog_1_method_3_code 11 = .ok (.iload_n 2, 1) := by decide +kernel
theorem dG_add_12 : decode prog_1_method_3_code 12 = .ok (.aload_n 0, 1) := by decide +kernel
theorem dG_add_13 : decode prog_1_method_3_code 13 = .ok (.getfield 90, 3) := by decide +kernel
theorem dG_add_16 : decode prog_1_method_3_code 16 = .ok (.if_icmp .lt 11, 3) := by decide +kernel
theorem dG_add_19 : decode prog_1_method_3_code 19 = .ok (.new 87, 3) := by decide +kernel
theorem dG_add_22 : decode prog_1_method_3_code 22 = .ok (.dup, 1) := by decide +kernel
theorem dG_add_23 : decode prog_1_method_3_code 23 = .ok (.invokespecial 89, 3) := by decide +kernel
theorem dG_add_26 : decode prog_1_method_3_code 26 = .ok (.athrow, 1) := by decide +kernel
theorem dG_add_27 : decode prog_1_method_3_code 27 = .ok (.aload_n 0, 1) := by decide +kernel
theorem dG_add_28 : decode prog_1_method_3_code 28 = .ok (.iload_n 1, 1) := by decide +kernel
theorem dG_add_29 : decode prog_1_method_3_code 29 = .ok (.invokevirtual 98, 3) := by decide +kernel
theorem dG_add_32 : decode prog_1_method_3_code 32 = .ok (.ifCond .ne 11, 3) := by decide +kernel
theorem dG_add_35 : decode prog_1_method_3_code 35 = .ok (.new 93, 3) := by decide +kernel
theorem dG_add_38 : decode prog_1_method_3_code 38 = .ok (.dup, 1) := by decide +kernel
theorem dG_add_39 : decode prog_1_method_3_code 39 = .ok (.invokespecial 95, 3) := by decide +kernel
theorem dG_add_42 : decode prog_1_method_3_code 42 = .ok (.athrow, 1) := by decide +kernel
theorem dG_add_43 : decode prog_1_method_3_code 43 = .ok (.aload_n 0, 1) := by decide +kernel
theorem dG_add_44 : decode prog_1_method_3_code 44 = .ok (.new 34, 3) := by decide +kernel
theorem dG_add_47 : decode prog_1_method_3_code 47 = .ok (.dup, 1) := by decide +kernel
theorem dG_add_48 : decode prog_1_method_3_code 48 = .ok (.iconst 0, 1) := by decide +kernel
theorem dG_add_49 : decode prog_1_method_3_code 49 = .ok (.iload_n 2, 1) := by decide +kernel
theorem dG_add_50 : decode prog_1_method_3_code 50 = .ok (.iconst (-1), 1) := by decide +kernel
theorem dG_add_51 : decode prog_1_method_3_code 51 = .ok (.invokespecial 101, 3) := by decide +kernel
theorem dG_add_54 : decode prog_1_method_3_code 54 = .ok (.invokevirtual 102, 3) := by decide +kernel
theorem dG_add_57 : decode prog_1_method_3_code 57 = .ok (.ireturn, 1) := by decide +kernel
theorem dG_mayPropose_0 : decode prog_1_method_22_code 0 = .ok (.aload_n 0, 1) := by decide +kernel
theorem dG_mayPropose_1 : decode prog_1_method_22_code 1 = .ok (.iload_n 1, 1) := by decide +kernel
theorem dG_mayPropose_2 : decode prog_1_method_22_code 2 = .ok (.invokevirtual 113, 3) := by decide +kernel
theorem dG_mayPropose_5 : decode prog_1_method_22_code 5 = .ok (.ifCond .eq 16, 3) := by decide +kernel
theorem dG_mayPropose_8 : decode prog_1_method_22_code 8 = .ok (.aload_n 0, 1) := by decide +kernel
theorem dG_mayPropose_9 : decode prog_1_method_22_code 9 = .ok (.getfield 152, 3) := by decide +kernel
theorem dG_mayPropose_12 : decode prog_1_method_22_code 12 = .ok (.bipush 20, 2) := by decide +kernel
theorem dG_mayPropose_14 : decode prog_1_method_22_code 14 = .ok (.if_icmp .ge 7, 3) := by decide +kernel
theorem dG_mayPropose_17 : decode prog_1_method_22_code 17 = .ok (.iconst 1, 1) := by decide +kernel
theorem dG_mayPropose_18 : decode prog_1_method_22_code 18 = .ok (.goto 4, 3) := by decide +kernel
theorem dG_mayPropose_21 : decode prog_1_method_22_code 21 = .ok (.iconst 0, 1) := by decide +kernel
theorem dG_mayPropose_22 : decode prog_1_method_22_code 22 = .ok (.ireturn, 1) := by decide +kernel
theorem dG_isInLatest_0 : decode prog_1_method_21_code 0 = .ok (.aload_n 0, 1) := by decide +kernel
theorem dG_isInLatest_1 : decode prog_1_method_21_code 1 = .ok (.getfield 18, 3) := by decide +kernel
theorem dG_isInLatest_4 : decode prog_1_method_21_code 4 = .ok (.iload_n 1, 1) := by decide +kernel
theorem dG_isInLatest_5 : decode prog_1_method_21_code 5 = .ok (.aaload, 1) := by decide +kernel
theorem dG_isInLatest_6 : decode prog_1_method_21_code 6 = .ok (.getfield 161, 3) := by decide +kernel
theorem dG_isInLatest_9 : decode prog_1_method_21_code 9 = .ok (.aload_n 0, 1) := by decide +kernel
theorem dG_isInLatest_10 : decode prog_1_method_21_code 10 = .ok (.getfield 76, 3) := by decide +kernel
theorem dG_isInLatest_13 : decode prog_1_method_21_code 13 = .ok (.iconst 1, 1) := by decide +kernel
theorem dG_isInLatest_14 : decode prog_1_method_21_code 14 = .ok (.isub, 1) := by decide +kernel
theorem dG_isInLatest_15 : decode prog_1_method_21_code 15 = .ok (.if_icmp .ne 7, 3) := by decide +kernel
theorem dG_isInLatest_18 : decode prog_1_method_21_code 18 = .ok (.iconst 1, 1) := by decide +kernel
theorem dG_isInLatest_19 : decode prog_1_method_21_code 19 = .ok (.goto 4, 3) := by decide +kernel
theorem dG_isInLatest_22 : decode prog_1_method_21_code 22 = .ok (.iconst 0, 1) := by decide +kernel
theorem dG_isInLatest_23 : decode prog_1_method_21_code 23 = .ok (.ireturn, 1) := by decide +kernel
theorem dG_propose_0 : decode prog_1_method_23_code 0 = .ok (.aload_n 0, 1) := by decide +kernel
theorem dG_propose_1 : decode prog_1_method_23_code 1 = .ok (.getfield 36, 3) := by decide +kernel
theorem dG_propose_4 : decode prog_1_method_23_code 4 = .ok (.aload_n 0, 1) := by decide +kernel
theorem dG_propose_5 : decode prog_1_method_23_code 5 = .ok (.getfield 152, 3) := by decide +kernel
theorem dG_propose_8 : decode prog_1_method_23_code 8 = .ok (.aload_n 1, 1) := by decide +kernel
theorem dG_propose_9 : decode prog_1_method_23_code 9 = .ok (.aastore, 1) := by decide +kernel
theorem dG_propose_10 : decode prog_1_method_23_code 10 = .ok (.aload_n 0, 1) := by decide +kernel
theorem dG_propose_11 : decode prog_1_method_23_code 11 = .ok (.dup, 1) := by decide +kernel
theorem dG_propose_12 : decode prog_1_method_23_code 12 = .ok (.getfield 152, 3) := by decide +kernel
theorem dG_propose_15 : decode prog_1_method_23_code 15 = .ok (.iconst 1, 1) := by decide +kernel
theorem dG_propose_16 : decode prog_1_method_23_code 16 = .ok (.iadd, 1) := by decide +kernel
theorem dG_propose_17 : decode prog_1_method_23_code 17 = .ok (.putfield 152, 3) := by decide +kernel
theorem dG_propose_20 : decode prog_1_method_23_code 20 = .ok (.aload_n 0, 1) := by decide +kernel
theorem dG_propose_21 : decode prog_1_method_23_code 21 = .ok (.getfield 152, 3) := by decide +kernel
theorem dG_propose_24 : decode prog_1_method_23_code 24 = .ok (.ireturn, 1) := by decide +kernel
theorem dG_remove_0 : decode prog_1_method_4_code 0 = .ok (.iload_n 1, 1) := by decide +kernel
theorem dG_remove_1 : decode prog_1_method_4_code 1 = .ok (.invokestatic 83, 3) := by decide +kernel
theorem dG_remove_4 : decode prog_1_method_4_code 4 = .ok (.ifCond .eq 13, 3) := by decide +kernel
theorem dG_remove_7 : decode prog_1_method_4_code 7 = .ok (.iload_n 2, 1) := by decide +kernel
theorem dG_remove_8 : decode prog_1_method_4_code 8 = .ok (.ifCond .lt 9, 3) := by decide +kernel
theorem dG_remove_11 : decode prog_1_method_4_code 11 = .ok (.iload_n 2, 1) := by decide +kernel
theorem dG_remove_12 : decode prog_1_method_4_code 12 = .ok (.bipush 16, 2) := by decide +kernel
theorem dG_remove_14 : decode prog_1_method_4_code 14 = .ok (.if_icmp .lt 11, 3) := by decide +kernel
theorem dG_remove_17 : decode prog_1_method_4_code 17 = .ok (.new 87, 3) := by decide +kernel
theorem dG_remove_20 : decode prog_1_method_4_code 20 = .ok (.dup, 1) := by decide +kernel
theorem dG_remove_21 : decode prog_1_method_4_code 21 = .ok (.invokespecial 89, 3) := by decide +kernel
theorem dG_remove_24 : decode prog_1_method_4_code 24 = .ok (.athrow, 1) := by decide +kernel
theorem dG_remove_25 : decode prog_1_method_4_code 25 = .ok (.aload_n 0, 1) := by decide +kernel
theorem dG_remove_26 : decode prog_1_method_4_code 26 = .ok (.iload_n 1, 1) := by decide +kernel
theorem dG_remove_27 : decode prog_1_method_4_code 27 = .ok (.invokevirtual 98, 3) := by decide +kernel
theorem dG_remove_30 : decode prog_1_method_4_code 30 = .ok (.ifCond .ne 11, 3) := by decide +kernel
theorem dG_remove_33 : decode prog_1_method_4_code 33 = .ok (.new 93, 3) := by decide +kernel
theorem dG_remove_36 : decode prog_1_method_4_code 36 = .ok (.dup, 1) := by decide +kernel
theorem dG_remove_37 : decode prog_1_method_4_code 37 = .ok (.invokespecial 95, 3) := by decide +kernel
theorem dG_remove_40 : decode prog_1_method_4_code 40 = .ok (.athrow, 1) := by decide +kernel
theorem dG_remove_41 : decode prog_1_method_4_code 41 = .ok (.aload_n 0, 1) := by decide +kernel
theorem dG_remove_42 : decode prog_1_method_4_code 42 = .ok (.new 34, 3) := by decide +kernel
theorem dG_remove_45 : decode prog_1_method_4_code 45 = .ok (.dup, 1) := by decide +kernel
theorem dG_remove_46 : decode prog_1_method_4_code 46 = .ok (.iconst 1, 1) := by decide +kernel
theorem dG_remove_47 : decode prog_1_method_4_code 47 = .ok (.iload_n 2, 1) := by decide +kernel
theorem dG_remove_48 : decode prog_1_method_4_code 48 = .ok (.iconst (-1), 1) := by decide +kernel
theorem dG_remove_49 : decode prog_1_method_4_code 49 = .ok (.invokespecial 101, 3) := by decide +kernel
theorem dG_remove_52 : decode prog_1_method_4_code 52 = .ok (.invokevirtual 102, 3) := by decide +kernel
theorem dG_remove_55 : decode prog_1_method_4_code 55 = .ok (.ireturn, 1) := by decide +kernel
theorem dG_update_0 : decode prog_1_method_5_code 0 = .ok (.iload_n 1, 1) := by decide +kernel
theorem dG_update_1 : decode prog_1_method_5_code 1 = .ok (.invokestatic 83, 3) := by decide +kernel
theorem dG_update_4 : decode prog_1_method_5_code 4 = .ok (.ifCond .ne 11, 3) := by decide +kernel
theorem dG_update_7 : decode prog_1_method_5_code 7 = .ok (.new 87, 3) := by decide +kernel
theorem dG_update_10 : decode prog_1_method_5_code 10 = .ok (.dup, 1) := by decide +kernel
theorem dG_update_11 : decode prog_1_method_5_code 11 = .ok (.invokespecial 89, 3) := by decide +kernel
theorem dG_update_14 : decode prog_1_method_5_code 14 = .ok (.athrow, 1) := by decide +kernel
theorem dG_update_15 : decode prog_1_method_5_code 15 = .ok (.aload_n 0, 1) := by decide +kernel
theorem dG_update_16 : decode prog_1_method_5_code 16 = .ok (.iload_n 1, 1) := by decide +kernel
theorem dG_update_17 : decode prog_1_method_5_code 17 = .ok (.invokevirtual 98, 3) := by decide +kernel
theorem dG_update_20 : decode prog_1_method_5_code 20 = .ok (.ifCond .ne 11, 3) := by decide +kernel
theorem dG_update_23 : decode prog_1_method_5_code 23 = .ok (.new 93, 3) := by decide +kernel
theorem dG_update_26 : decode prog_1_method_5_code 26 = .ok (.dup, 1) := by decide +kernel
theorem dG_update_27 : decode prog_1_method_5_code 27 = .ok (.invokespecial 95, 3) := by decide +kernel
theorem dG_update_30 : decode prog_1_method_5_code 30 = .ok (.athrow, 1) := by decide +kernel
theorem dG_update_31 : decode prog_1_method_5_code 31 = .ok (.aload_n 0, 1) := by decide +kernel
theorem dG_update_32 : decode prog_1_method_5_code 32 = .ok (.getfield 18, 3) := by decide +kernel
theorem dG_update_35 : decode prog_1_method_5_code 35 = .ok (.iload_n 1, 1) := by decide +kernel
theorem dG_update_36 : decode prog_1_method_5_code 36 = .ok (.aaload, 1) := by decide +kernel
theorem dG_update_37 : decode prog_1_method_5_code 37 = .ok (.astore_n 2, 1) := by decide +kernel
theorem dG_update_38 : decode prog_1_method_5_code 38 = .ok (.aload_n 0, 1) := by decide +kernel
theorem dG_update_39 : decode prog_1_method_5_code 39 = .ok (.getfield 12, 3) := by decide +kernel
theorem dG_update_42 : decode prog_1_method_5_code 42 = .ok (.invokevirtual 64, 3) := by decide +kernel
theorem dG_update_45 : decode prog_1_method_5_code 45 = .ok (.istore_n 3, 1) := by decide +kernel
theorem dG_update_46 : decode prog_1_method_5_code 46 = .ok (.aload_n 2, 1) := by decide +kernel
theorem dG_update_47 : decode prog_1_method_5_code 47 = .ok (.iload_n 3, 1) := by decide +kernel
theorem dG_update_48 : decode prog_1_method_5_code 48 = .ok (.invokevirtual 106, 3) := by decide +kernel
theorem dG_update_51 : decode prog_1_method_5_code 51 = .ok (.aload_n 0, 1) := by decide +kernel
theorem dG_update_52 : decode prog_1_method_5_code 52 = .ok (.new 34, 3) := by decide +kernel
theorem dG_update_55 : decode prog_1_method_5_code 55 = .ok (.dup, 1) := by decide +kernel
theorem dG_update_56 : decode prog_1_method_5_code 56 = .ok (.iconst 2, 1) := by decide +kernel
theorem dG_update_57 : decode prog_1_method_5_code 57 = .ok (.aload_n 2, 1) := by decide +kernel
theorem dG_update_58 : decode prog_1_method_5_code 58 = .ok (.getfield 110, 3) := by decide +kernel
theorem dG_update_61 : decode prog_1_method_5_code 61 = .ok (.iload_n 3, 1) := by decide +kernel
theorem dG_update_62 : decode prog_1_method_5_code 62 = .ok (.invokespecial 101, 3) := by decide +kernel
theorem dG_update_65 : decode prog_1_method_5_code 65 = .ok (.invokevirtual 102, 3) := by decide +kernel
theorem dG_update_68 : decode prog_1_method_5_code 68 = .ok (.ireturn, 1) := by decide +kernel
theorem dG_commit_0 : decode prog_1_method_6_code 0 = .ok (.iload_n 1, 1) := by decide +kernel
theorem dG_commit_1 : decode prog_1_method_6_code 1 = .ok (.invokestatic 83, 3) := by decide +kernel
theorem dG_commit_4 : decode prog_1_method_6_code 4 = .ok (.ifCond .ne 11, 3) := by decide +kernel
theorem dG_commit_7 : decode prog_1_method_6_code 7 = .ok (.new 87, 3) := by decide +kernel
theorem dG_commit_10 : decode prog_1_method_6_code 10 = .ok (.dup, 1) := by decide +kernel
theorem dG_commit_11 : decode prog_1_method_6_code 11 = .ok (.invokespecial 89, 3) := by decide +kernel
theorem dG_commit_14 : decode prog_1_method_6_code 14 = .ok (.athrow, 1) := by decide +kernel
theorem dG_commit_15 : decode prog_1_method_6_code 15 = .ok (.aload_n 0, 1) := by decide +kernel
theorem dG_commit_16 : decode prog_1_method_6_code 16 = .ok (.iload_n 1, 1) := by decide +kernel
theorem dG_commit_17 : decode prog_1_method_6_code 17 = .ok (.invokevirtual 113, 3) := by decide +kernel
theorem dG_commit_20 : decode prog_1_method_6_code 20 = .ok (.ifCond .eq 12, 3) := by decide +kernel
theorem dG_commit_23 : decode prog_1_method_6_code 23 = .ok (.aload_n 0, 1) := by decide +kernel
theorem dG_commit_24 : decode prog_1_method_6_code 24 = .ok (.getfield 76, 3) := by decide +kernel
theorem dG_commit_27 : decode prog_1_method_6_code 27 = .ok (.bipush 60, 2) := by decide +kernel
theorem dG_commit_29 : decode prog_1_method_6_code 29 = .ok (.if_icmp .lt 11, 3) := by decide +kernel
theorem dG_commit_32 : decode prog_1_method_6_code 32 = .ok (.new 93, 3) := by decide +kernel
theorem dG_commit_35 : decode prog_1_method_6_code 35 = .ok (.dup, 1) := by decide +kernel
theorem dG_commit_36 : decode prog_1_method_6_code 36 = .ok (.invokespecial 95, 3) := by decide +kernel
theorem dG_commit_39 : decode prog_1_method_6_code 39 = .ok (.athrow, 1) := by decide +kernel
theorem dG_commit_40 : decode prog_1_method_6_code 40 = .ok (.aload_n 0, 1) := by decide +kernel
theorem dG_commit_41 : decode prog_1_method_6_code 41 = .ok (.getfield 18, 3) := by decide +kernel
theorem dG_commit_44 : decode prog_1_method_6_code 44 = .ok (.iload_n 1, 1) := by decide +kernel
theorem dG_commit_45 : decode prog_1_method_6_code 45 = .ok (.aaload, 1) := by decide +kernel
theorem dG_commit_46 : decode prog_1_method_6_code 46 = .ok (.astore_n 3, 1) := by decide +kernel
theorem dG_commit_47 : decode prog_1_method_6_code 47 = .ok (.aload_n 0, 1) := by decide +kernel
theorem dG_commit_48 : decode prog_1_method_6_code 48 = .ok (.getfield 24, 3) := by decide +kernel
theorem dG_commit_51 : decode prog_1_method_6_code 51 = .ok (.aload_n 0, 1) := by decide +kernel
theorem dG_commit_52 : decode prog_1_method_6_code 52 = .ok (.getfield 76, 3) := by decide +kernel
theorem dG_commit_55 : decode prog_1_method_6_code 55 = .ok (.iconst 1, 1) := by decide +kernel
theorem dG_commit_56 : decode prog_1_method_6_code 56 = .ok (.isub, 1) := by decide +kernel
theorem dG_commit_57 : decode prog_1_method_6_code 57 = .ok (.aaload, 1) := by decide +kernel
theorem dG_commit_58 : decode prog_1_method_6_code 58 = .ok (.astore 4, 2) := by decide +kernel
theorem dG_commit_60 : decode prog_1_method_6_code 60 = .ok (.new 22, 3) := by decide +kernel
theorem dG_commit_63 : decode prog_1_method_6_code 63 = .ok (.dup, 1) := by decide +kernel
theorem dG_commit_64 : decode prog_1_method_6_code 64 = .ok (.aload_n 0, 1) := by decide +kernel
theorem dG_commit_65 : decode prog_1_method_6_code 65 = .ok (.getfield 76, 3) := by decide +kernel
theorem dG_commit_68 : decode prog_1_method_6_code 68 = .ok (.new 54, 3) := by decide +kernel
theorem dG_commit_71 : decode prog_1_method_6_code 71 = .ok (.dup, 1) := by decide +kernel
theorem dG_commit_72 : decode prog_1_method_6_code 72 = .ok (.aload 4, 2) := by decide +kernel
theorem dG_commit_74 : decode prog_1_method_6_code 74 = .ok (.getfield 60, 3) := by decide +kernel
theorem dG_commit_77 : decode prog_1_method_6_code 77 = .ok (.invokespecial 116, 3) := by decide +kernel
theorem dG_commit_80 : decode prog_1_method_6_code 80 = .ok (.aload_n 3, 1) := by decide +kernel
theorem dG_commit_81 : decode prog_1_method_6_code 81 = .ok (.getfield 110, 3) := by decide +kernel
theorem dG_commit_84 : decode prog_1_method_6_code 84 = .ok (.invokespecial 57, 3) := by decide +kernel
theorem dG_commit_87 : decode prog_1_method_6_code 87 = .ok (.astore 5, 2) := by decide +kernel
theorem dG_commit_89 : decode prog_1_method_6_code 89 = .ok (.aload_n 0, 1) := by decide +kernel
theorem dG_commit_90 : decode prog_1_method_6_code 90 = .ok (.getfield 12, 3) := by decide +kernel
theorem dG_commit_93 : decode prog_1_method_6_code 93 = .ok (.invokevirtual 119, 3) := by decide +kernel
theorem dG_commit_96 : decode prog_1_method_6_code 96 = .ok (.istore 6, 2) := by decide +kernel
theorem dG_commit_98 : decode prog_1_method_6_code 98 = .ok (.aload_n 0, 1) := by decide +kernel
theorem dG_commit_99 : decode prog_1_method_6_code 99 = .ok (.aload 5, 2) := by decide +kernel
theorem dG_commit_101 : decode prog_1_method_6_code 101 = .ok (.invokevirtual 122, 3) := by decide +kernel
theorem dG_commit_104 : decode prog_1_method_6_code 104 = .ok (.aload_n 0, 1) := by decide +kernel
theorem dG_commit_105 : decode prog_1_method_6_code 105 = .ok (.aload 5, 2) := by decide +kernel
theorem dG_commit_107 : decode prog_1_method_6_code 107 = .ok (.invokevirtual 126, 3) := by decide +kernel
theorem dG_commit_110 : decode prog_1_method_6_code 110 = .ok (.aload_n 0, 1) := by decide +kernel
theorem dG_commit_111 : decode prog_1_method_6_code 111 = .ok (.aload 5, 2) := by decide +kernel
theorem dG_commit_113 : decode prog_1_method_6_code 113 = .ok (.invokevirtual 129, 3) := by decide +kernel
theorem dG_commit_116 : decode prog_1_method_6_code 116 = .ok (.iload_n 2, 1) := by decide +kernel
theorem dG_commit_117 : decode prog_1_method_6_code 117 = .ok (.ifCond .ne 27, 3) := by decide +kernel
theorem dG_commit_120 : decode prog_1_method_6_code 120 = .ok (.aload 5, 2) := by decide +kernel
theorem dG_commit_122 : decode prog_1_method_6_code 122 = .ok (.getfield 132, 3) := by decide +kernel
theorem dG_commit_125 : decode prog_1_method_6_code 125 = .ok (.ifCond .ne 19, 3) := by decide +kernel
theorem dG_commit_128 : decode prog_1_method_6_code 128 = .ok (.aload 5, 2) := by decide +kernel
theorem dG_commit_130 : decode prog_1_method_6_code 130 = .ok (.getfield 135, 3) := by decide +kernel
theorem dG_commit_133 : decode prog_1_method_6_code 133 = .ok (.ifCond .ne 11, 3) := by decide +kernel
theorem dG_commit_136 : decode prog_1_method_6_code 136 = .ok (.aload 5, 2) := by decide +kernel
theorem dG_commit_138 : decode prog_1_method_6_code 138 = .ok (.getfield 138, 3) := by decide +kernel
theorem dG_commit_141 : decode prog_1_method_6_code 141 = .ok (.ifCond .ne 7, 3) := by decide +kernel
theorem dG_commit_144 : decode prog_1_method_6_code 144 = .ok (.iconst 1, 1) := by decide +kernel
theorem dG_commit_145 : decode prog_1_method_6_code 145 = .ok (.goto 4, 3) := by decide +kernel
theorem dG_commit_148 : decode prog_1_method_6_code 148 = .ok (.iconst 0, 1) := by decide +kernel
end
section
theorem dG_commit_149 : decode prog_1_method_6_code 149 = .ok (.istore 7, 2) := by decide +kernel
theorem dG_commit_151 : decode prog_1_method_6_code 151 = .ok (.iload 7, 2) := by decide +kernel
theorem dG_commit_153 : decode prog_1_method_6_code 153 = .ok (.ifCond .eq 12, 3) := by decide +kernel
theorem dG_commit_156 : decode prog_1_method_6_code 156 = .ok (.aload_n 0, 1) := by decide +kernel
theorem dG_commit_157 : decode prog_1_method_6_code 157 = .ok (.aload 5, 2) := by decide +kernel
theorem dG_commit_159 : decode prog_1_method_6_code 159 = .ok (.invokevirtual 141, 3) := by decide +kernel
theorem dG_commit_162 : decode prog_1_method_6_code 162 = .ok (.goto 4, 3) := by decide +kernel
theorem dG_commit_165 : decode prog_1_method_6_code 165 = .ok (.iconst 0, 1) := by decide +kernel
theorem dG_commit_166 : decode prog_1_method_6_code 166 = .ok (.istore 8, 2) := by decide +kernel
theorem dG_commit_168 : decode prog_1_method_6_code 168 = .ok (.aload_n 0, 1) := by decide +kernel
theorem dG_commit_169 : decode prog_1_method_6_code 169 = .ok (.aload 4, 2) := by decide +kernel
theorem dG_commit_171 : decode prog_1_method_6_code 171 = .ok (.aload 5, 2) := by decide +kernel
theorem dG_commit_173 : decode prog_1_method_6_code 173 = .ok (.iload 8, 2) := by decide +kernel
theorem dG_commit_175 : decode prog_1_method_6_code 175 = .ok (.invokevirtual 145, 3) := by decide +kernel
theorem dG_commit_178 : decode prog_1_method_6_code 178 = .ok (.aload_n 3, 1) := by decide +kernel
theorem dG_commit_179 : decode prog_1_method_6_code 179 = .ok (.aload 5, 2) := by decide +kernel
theorem dG_commit_181 : decode prog_1_method_6_code 181 = .ok (.invokevirtual 149, 3) := by decide +kernel
theorem dG_commit_184 : decode prog_1_method_6_code 184 = .ok (.aload_n 0, 1) := by decide +kernel
theorem dG_commit_185 : decode prog_1_method_6_code 185 = .ok (.iconst 0, 1) := by decide +kernel
theorem dG_commit_186 : decode prog_1_method_6_code 186 = .ok (.putfield 152, 3) := by decide +kernel
theorem dG_commit_189 : decode prog_1_method_6_code 189 = .ok (.aload_n 0, 1) := by decide +kernel
theorem dG_commit_190 : decode prog_1_method_6_code 190 = .ok (.getfield 12, 3) := by decide +kernel
theorem dG_commit_193 : decode prog_1_method_6_code 193 = .ok (.iload 6, 2) := by decide +kernel
theorem dG_commit_195 : decode prog_1_method_6_code 195 = .ok (.invokevirtual 155, 3) := by decide +kernel
theorem dG_commit_198 : decode prog_1_method_6_code 198 = .ok (.aload 5, 2) := by decide +kernel
theorem dG_commit_200 : decode prog_1_method_6_code 200 = .ok (.getfield 158, 3) := by decide +kernel
theorem dG_commit_203 : decode prog_1_method_6_code 203 = .ok (.ireturn, 1) := by decide +kernel
theorem dG_doRemoves_0 : decode prog_1_method_24_code 0 = .ok (.iconst 0, 1) := by decide +kernel
theorem dG_doRemoves_1 : decode prog_1_method_24_code 1 = .ok (.istore_n 2, 1) := by decide +kernel
theorem dG_doRemoves_2 : decode prog_1_method_24_code 2 = .ok (.iload_n 2, 1) := by decide +kernel
theorem dG_doRemoves_3 : decode prog_1_method_24_code 3 = .ok (.aload_n 0, 1) := by decide +kernel
theorem dG_doRemoves_4 : decode prog_1_method_24_code 4 = .ok (.getfield 152, 3) := by decide +kernel
theorem dG_doRemoves_7 : decode prog_1_method_24_code 7 = .ok (.if_icmp .ge 88, 3) := by decide +kernel
theorem dG_doRemoves_10 : decode prog_1_method_24_code 10 = .ok (.aload_n 0, 1) := by decide +kernel
theorem dG_doRemoves_11 : decode prog_1_method_24_code 11 = .ok (.getfield 36, 3) := by decide +kernel
theorem dG_doRemoves_14 : decode prog_1_method_24_code 14 = .ok (.iload_n 2, 1) := by decide +kernel
theorem dG_doRemoves_15 : decode prog_1_method_24_code 15 = .ok (.aaload, 1) := by decide +kernel
theorem dG_doRemoves_16 : decode prog_1_method_24_code 16 = .ok (.astore_n 3, 1) := by decide +kernel
theorem dG_doRemoves_17 : decode prog_1_method_24_code 17 = .ok (.aload_n 3, 1) := by decide +kernel
theorem dG_doRemoves_18 : decode prog_1_method_24_code 18 = .ok (.getfield 227, 3) := by decide +kernel
theorem dG_doRemoves_21 : decode prog_1_method_24_code 21 = .ok (.iconst 1, 1) := by decide +kernel
theorem dG_doRemoves_22 : decode prog_1_method_24_code 22 = .ok (.if_icmp .ne 67, 3) := by decide +kernel
theorem dG_doRemoves_25 : decode prog_1_method_24_code 25 = .ok (.aload_n 3, 1) := by decide +kernel
theorem dG_doRemoves_26 : decode prog_1_method_24_code 26 = .ok (.getfield 230, 3) := by decide +kernel
theorem dG_doRemoves_29 : decode prog_1_method_24_code 29 = .ok (.aload_n 1, 1) := by decide +kernel
theorem dG_doRemoves_30 : decode prog_1_method_24_code 30 = .ok (.getfield 215, 3) := by decide +kernel
theorem dG_doRemoves_33 : decode prog_1_method_24_code 33 = .ok (.if_icmp .eq 56, 3) := by decide +kernel
theorem dG_doRemoves_36 : decode prog_1_method_24_code 36 = .ok (.aload_n 1, 1) := by decide +kernel
theorem dG_doRemoves_37 : decode prog_1_method_24_code 37 = .ok (.getfield 60, 3) := by decide +kernel
theorem dG_doRemoves_40 : decode prog_1_method_24_code 40 = .ok (.aload_n 3, 1) := by decide +kernel
theorem dG_doRemoves_41 : decode prog_1_method_24_code 41 = .ok (.getfield 230, 3) := by decide +kernel
theorem dG_doRemoves_44 : decode prog_1_method_24_code 44 = .ok (.invokestatic 233, 3) := by decide +kernel
theorem dG_doRemoves_47 : decode prog_1_method_24_code 47 = .ok (.invokevirtual 187, 3) := by decide +kernel
theorem dG_doRemoves_50 : decode prog_1_method_24_code 50 = .ok (.iconst (-1), 1) := by decide +kernel
theorem dG_doRemoves_51 : decode prog_1_method_24_code 51 = .ok (.if_icmp .eq 38, 3) := by decide +kernel
theorem dG_doRemoves_54 : decode prog_1_method_24_code 54 = .ok (.aload_n 1, 1) := by decide +kernel
theorem dG_doRemoves_55 : decode prog_1_method_24_code 55 = .ok (.getfield 60, 3) := by decide +kernel
theorem dG_doRemoves_58 : decode prog_1_method_24_code 58 = .ok (.aload_n 3, 1) := by decide +kernel
theorem dG_doRemoves_59 : decode prog_1_method_24_code 59 = .ok (.getfield 230, 3) := by decide +kernel
theorem dG_doRemoves_62 : decode prog_1_method_24_code 62 = .ok (.invokevirtual 236, 3) := by decide +kernel
theorem dG_doRemoves_65 : decode prog_1_method_24_code 65 = .ok (.aload_n 1, 1) := by decide +kernel
theorem dG_doRemoves_66 : decode prog_1_method_24_code 66 = .ok (.dup, 1) := by decide +kernel
theorem dG_doRemoves_67 : decode prog_1_method_24_code 67 = .ok (.getfield 132, 3) := by decide +kernel
theorem dG_doRemoves_70 : decode prog_1_method_24_code 70 = .ok (.aload_n 3, 1) := by decide +kernel
theorem dG_doRemoves_71 : decode prog_1_method_24_code 71 = .ok (.getfield 230, 3) := by decide +kernel
theorem dG_doRemoves_74 : decode prog_1_method_24_code 74 = .ok (.invokestatic 239, 3) := by decide +kernel
theorem dG_doRemoves_77 : decode prog_1_method_24_code 77 = .ok (.ior, 1) := by decide +kernel
theorem dG_doRemoves_78 : decode prog_1_method_24_code 78 = .ok (.putfield 132, 3) := by decide +kernel
theorem dG_doRemoves_81 : decode prog_1_method_24_code 81 = .ok (.aload_n 0, 1) := by decide +kernel
theorem dG_doRemoves_82 : decode prog_1_method_24_code 82 = .ok (.aload_n 3, 1) := by decide +kernel
theorem dG_doRemoves_83 : decode prog_1_method_24_code 83 = .ok (.getfield 230, 3) := by decide +kernel
theorem dG_doRemoves_86 : decode prog_1_method_24_code 86 = .ok (.invokevirtual 242, 3) := by decide +kernel
theorem dG_doRemoves_89 : decode prog_1_method_24_code 89 = .ok (.iinc 2 1, 3) := by decide +kernel
theorem dG_doRemoves_92 : decode prog_1_method_24_code 92 = .ok (.goto (-90), 3) := by decide +kernel
theorem dG_doRemoves_95 : decode prog_1_method_24_code 95 = .ok (.aload_n 1, 1) := by decide +kernel
theorem dG_doRemoves_96 : decode prog_1_method_24_code 96 = .ok (.getfield 60, 3) := by decide +kernel
theorem dG_doRemoves_99 : decode prog_1_method_24_code 99 = .ok (.invokevirtual 245, 3) := by decide +kernel
theorem dG_doRemoves_102 : decode prog_1_method_24_code 102 = .ok (.return_, 1) := by decide +kernel
theorem dG_pathNode_0 : decode prog_1_method_41_code 0 = .ok (.iload_n 0, 1) := by decide +kernel
theorem dG_pathNode_1 : decode prog_1_method_41_code 1 = .ok (.iload_n 1, 1) := by decide +kernel
theorem dG_pathNode_2 : decode prog_1_method_41_code 2 = .ok (.ishr, 1) := by decide +kernel
theorem dG_pathNode_3 : decode prog_1_method_41_code 3 = .ok (.iload_n 1, 1) := by decide +kernel
theorem dG_pathNode_4 : decode prog_1_method_41_code 4 = .ok (.iconst 1, 1) := by decide +kernel
theorem dG_pathNode_5 : decode prog_1_method_41_code 5 = .ok (.iadd, 1) := by decide +kernel
theorem dG_pathNode_6 : decode prog_1_method_41_code 6 = .ok (.ishl, 1) := by decide +kernel
theorem dG_pathNode_7 : decode prog_1_method_41_code 7 = .ok (.iconst 1, 1) := by decide +kernel
theorem dG_pathNode_8 : decode prog_1_method_41_code 8 = .ok (.iload_n 1, 1) := by decide +kernel
theorem dG_pathNode_9 : decode prog_1_method_41_code 9 = .ok (.ishl, 1) := by decide +kernel
theorem dG_pathNode_10 : decode prog_1_method_41_code 10 = .ok (.iadd, 1) := by decide +kernel
theorem dG_pathNode_11 : decode prog_1_method_41_code 11 = .ok (.iconst 1, 1) := by decide +kernel
theorem dG_pathNode_12 : decode prog_1_method_41_code 12 = .ok (.isub, 1) := by decide +kernel
theorem dG_pathNode_13 : decode prog_1_method_41_code 13 = .ok (.ireturn, 1) := by decide +kernel
theorem dG_dismiss_0 : decode prog_1_method_25_code 0 = .ok (.aload_n 0, 1) := by decide +kernel
theorem dG_dismiss_1 : decode prog_1_method_25_code 1 = .ok (.getfield 40, 3) := by decide +kernel
theorem dG_dismiss_4 : decode prog_1_method_25_code 4 = .ok (.iload_n 1, 1) := by decide +kernel
theorem dG_dismiss_5 : decode prog_1_method_25_code 5 = .ok (.iaload, 1) := by decide +kernel
theorem dG_dismiss_6 : decode prog_1_method_25_code 6 = .ok (.istore_n 2, 1) := by decide +kernel
theorem dG_dismiss_7 : decode prog_1_method_25_code 7 = .ok (.aload_n 0, 1) := by decide +kernel
theorem dG_dismiss_8 : decode prog_1_method_25_code 8 = .ok (.getfield 40, 3) := by decide +kernel
theorem dG_dismiss_11 : decode prog_1_method_25_code 11 = .ok (.iload_n 1, 1) := by decide +kernel
theorem dG_dismiss_12 : decode prog_1_method_25_code 12 = .ok (.iconst (-1), 1) := by decide +kernel
theorem dG_dismiss_13 : decode prog_1_method_25_code 13 = .ok (.iastore, 1) := by decide +kernel
theorem dG_dismiss_14 : decode prog_1_method_25_code 14 = .ok (.iload_n 2, 1) := by decide +kernel
theorem dG_dismiss_15 : decode prog_1_method_25_code 15 = .ok (.invokestatic 83, 3) := by decide +kernel
theorem dG_dismiss_18 : decode prog_1_method_25_code 18 = .ok (.ifCond .eq 20, 3) := by decide +kernel
theorem dG_dismiss_21 : decode prog_1_method_25_code 21 = .ok (.aload_n 0, 1) := by decide +kernel
theorem dG_dismiss_22 : decode prog_1_method_25_code 22 = .ok (.iload_n 2, 1) := by decide +kernel
theorem dG_dismiss_23 : decode prog_1_method_25_code 23 = .ok (.invokevirtual 113, 3) := by decide +kernel
theorem dG_dismiss_26 : decode prog_1_method_25_code 26 = .ok (.ifCond .eq 12, 3) := by decide +kernel
theorem dG_dismiss_29 : decode prog_1_method_25_code 29 = .ok (.aload_n 0, 1) := by decide +kernel
theorem dG_dismiss_30 : decode prog_1_method_25_code 30 = .ok (.getfield 18, 3) := by decide +kernel
theorem dG_dismiss_33 : decode prog_1_method_25_code 33 = .ok (.iload_n 2, 1) := by decide +kernel
theorem dG_dismiss_34 : decode prog_1_method_25_code 34 = .ok (.aaload, 1) := by decide +kernel
theorem dG_dismiss_35 : decode prog_1_method_25_code 35 = .ok (.invokevirtual 248, 3) := by decide +kernel
theorem dG_dismiss_38 : decode prog_1_method_25_code 38 = .ok (.return_, 1) := by decide +kernel
theorem dG_doUpdates_0 : decode prog_1_method_26_code 0 = .ok (.iconst 0, 1) := by decide +kernel
theorem dG_doUpdates_1 : decode prog_1_method_26_code 1 = .ok (.istore_n 2, 1) := by decide +kernel
theorem dG_doUpdates_2 : decode prog_1_method_26_code 2 = .ok (.iload_n 2, 1) := by decide +kernel
theorem dG_doUpdates_3 : decode prog_1_method_26_code 3 = .ok (.aload_n 0, 1) := by decide +kernel
theorem dG_doUpdates_4 : decode prog_1_method_26_code 4 = .ok (.getfield 152, 3) := by decide +kernel
theorem dG_doUpdates_7 : decode prog_1_method_26_code 7 = .ok (.if_icmp .ge 99, 3) := by decide +kernel
theorem dG_doUpdates_10 : decode prog_1_method_26_code 10 = .ok (.aload_n 0, 1) := by decide +kernel
theorem dG_doUpdates_11 : decode prog_1_method_26_code 11 = .ok (.getfield 36, 3) := by decide +kernel
theorem dG_doUpdates_14 : decode prog_1_method_26_code 14 = .ok (.iload_n 2, 1) := by decide +kernel
theorem dG_doUpdates_15 : decode prog_1_method_26_code 15 = .ok (.aaload, 1) := by decide +kernel
theorem dG_doUpdates_16 : decode prog_1_method_26_code 16 = .ok (.astore_n 3, 1) := by decide +kernel
theorem dG_doUpdates_17 : decode prog_1_method_26_code 17 = .ok (.aload_n 3, 1) := by decide +kernel
theorem dG_doUpdates_18 : decode prog_1_method_26_code 18 = .ok (.getfield 227, 3) := by decide +kernel
theorem dG_doUpdates_21 : decode prog_1_method_26_code 21 = .ok (.iconst 2, 1) := by decide +kernel
theorem dG_doUpdates_22 : decode prog_1_method_26_code 22 = .ok (.if_icmp .ne 78, 3) := by decide +kernel
theorem dG_doUpdates_25 : decode prog_1_method_26_code 25 = .ok (.aload_n 3, 1) := by decide +kernel
theorem dG_doUpdates_26 : decode prog_1_method_26_code 26 = .ok (.getfield 230, 3) := by decide +kernel
theorem dG_doUpdates_29 : decode prog_1_method_26_code 29 = .ok (.aload_n 1, 1) := by decide +kernel
theorem dG_doUpdates_30 : decode prog_1_method_26_code 30 = .ok (.getfield 215, 3) := by decide +kernel
theorem dG_doUpdates_33 : decode prog_1_method_26_code 33 = .ok (.if_icmp .eq 67, 3) := by decide +kernel
theorem dG_doUpdates_36 : decode prog_1_method_26_code 36 = .ok (.aload_n 1, 1) := by decide +kernel
theorem dG_doUpdates_37 : decode prog_1_method_26_code 37 = .ok (.getfield 132, 3) := by decide +kernel
theorem dG_doUpdates_40 : decode prog_1_method_26_code 40 = .ok (.aload_n 3, 1) := by decide +kernel
theorem dG_doUpdates_41 : decode prog_1_method_26_code 41 = .ok (.getfield 230, 3) := by decide +kernel
theorem dG_doUpdates_44 : decode prog_1_method_26_code 44 = .ok (.invokestatic 239, 3) := by decide +kernel
theorem dG_doUpdates_47 : decode prog_1_method_26_code 47 = .ok (.iand, 1) := by decide +kernel
theorem dG_doUpdates_48 : decode prog_1_method_26_code 48 = .ok (.ifCond .ne 52, 3) := by decide +kernel
theorem dG_doUpdates_51 : decode prog_1_method_26_code 51 = .ok (.aload_n 1, 1) := by decide +kernel
theorem dG_doUpdates_52 : decode prog_1_method_26_code 52 = .ok (.getfield 60, 3) := by decide +kernel
theorem dG_doUpdates_55 : decode prog_1_method_26_code 55 = .ok (.aload_n 3, 1) := by decide +kernel
theorem dG_doUpdates_56 : decode prog_1_method_26_code 56 = .ok (.getfield 230, 3) := by decide +kernel
theorem dG_doUpdates_59 : decode prog_1_method_26_code 59 = .ok (.invokevirtual 236, 3) := by decide +kernel
theorem dG_doUpdates_62 : decode prog_1_method_26_code 62 = .ok (.aload_n 1, 1) := by decide +kernel
theorem dG_doUpdates_63 : decode prog_1_method_26_code 63 = .ok (.getfield 60, 3) := by decide +kernel
theorem dG_doUpdates_66 : decode prog_1_method_26_code 66 = .ok (.aload_n 3, 1) := by decide +kernel
theorem dG_doUpdates_67 : decode prog_1_method_26_code 67 = .ok (.getfield 230, 3) := by decide +kernel
theorem dG_doUpdates_70 : decode prog_1_method_26_code 70 = .ok (.invokestatic 233, 3) := by decide +kernel
theorem dG_doUpdates_73 : decode prog_1_method_26_code 73 = .ok (.aload_n 3, 1) := by decide +kernel
theorem dG_doUpdates_74 : decode prog_1_method_26_code 74 = .ok (.getfield 251, 3) := by decide +kernel
theorem dG_doUpdates_77 : decode prog_1_method_26_code 77 = .ok (.aload_n 1, 1) := by decide +kernel
theorem dG_doUpdates_78 : decode prog_1_method_26_code 78 = .ok (.getfield 158, 3) := by decide +kernel
theorem dG_doUpdates_81 : decode prog_1_method_26_code 81 = .ok (.invokevirtual 68, 3) := by decide +kernel
theorem dG_doUpdates_84 : decode prog_1_method_26_code 84 = .ok (.aload_n 1, 1) := by decide +kernel
theorem dG_doUpdates_85 : decode prog_1_method_26_code 85 = .ok (.dup, 1) := by decide +kernel
theorem dG_doUpdates_86 : decode prog_1_method_26_code 86 = .ok (.getfield 135, 3) := by decide +kernel
theorem dG_doUpdates_89 : decode prog_1_method_26_code 89 = .ok (.aload_n 3, 1) := by decide +kernel
theorem dG_doUpdates_90 : decode prog_1_method_26_code 90 = .ok (.getfield 230, 3) := by decide +kernel
theorem dG_doUpdates_93 : decode prog_1_method_26_code 93 = .ok (.invokestatic 239, 3) := by decide +kernel
theorem dG_doUpdates_96 : decode prog_1_method_26_code 96 = .ok (.ior, 1) := by decide +kernel
theorem dG_doUpdates_97 : decode prog_1_method_26_code 97 = .ok (.putfield 135, 3) := by decide +kernel
theorem dG_doUpdates_100 : decode prog_1_method_26_code 100 = .ok (.iinc 2 1, 3) := by decide +kernel
theorem dG_doUpdates_103 : decode prog_1_method_26_code 103 = .ok (.goto (-101), 3) := by decide +kernel
theorem dG_doUpdates_106 : decode prog_1_method_26_code 106 = .ok (.return_, 1) := by decide +kernel
theorem dG_doAdds_0 : decode prog_1_method_27_code 0 = .ok (.iconst 0, 1) := by decide +kernel
theorem dG_doAdds_1 : decode prog_1_method_27_code 1 = .ok (.istore_n 2, 1) := by decide +kernel
theorem dG_doAdds_2 : decode prog_1_method_27_code 2 = .ok (.iload_n 2, 1) := by decide +kernel
theorem dG_doAdds_3 : decode prog_1_method_27_code 3 = .ok (.aload_n 0, 1) := by decide +kernel
theorem dG_doAdds_4 : decode prog_1_method_27_code 4 = .ok (.getfield 152, 3) := by decide +kernel
theorem dG_doAdds_7 : decode prog_1_method_27_code 7 = .ok (.if_icmp .ge 61, 3) := by decide +kernel
theorem dG_doAdds_10 : decode prog_1_method_27_code 10 = .ok (.aload_n 0, 1) := by decide +kernel
theorem dG_doAdds_11 : decode prog_1_method_27_code 11 = .ok (.getfield 36, 3) := by decide +kernel
theorem dG_doAdds_14 : decode prog_1_method_27_code 14 = .ok (.iload_n 2, 1) := by decide +kernel
theorem dG_doAdds_15 : decode prog_1_method_27_code 15 = .ok (.aaload, 1) := by decide +kernel
theorem dG_doAdds_16 : decode prog_1_method_27_code 16 = .ok (.getfield 227, 3) := by decide +kernel
theorem dG_doAdds_19 : decode prog_1_method_27_code 19 = .ok (.ifCond .ne 43, 3) := by decide +kernel
theorem dG_doAdds_22 : decode prog_1_method_27_code 22 = .ok (.aload_n 0, 1) := by decide +kernel
theorem dG_doAdds_23 : decode prog_1_method_27_code 23 = .ok (.aload_n 0, 1) := by decide +kernel
theorem dG_doAdds_24 : decode prog_1_method_27_code 24 = .ok (.getfield 30, 3) := by decide +kernel
theorem dG_doAdds_27 : decode prog_1_method_27_code 27 = .ok (.aload_n 0, 1) := by decide +kernel
theorem dG_doAdds_28 : decode prog_1_method_27_code 28 = .ok (.getfield 36, 3) := by decide +kernel
theorem dG_doAdds_31 : decode prog_1_method_27_code 31 = .ok (.iload_n 2, 1) := by decide +kernel
theorem dG_doAdds_32 : decode prog_1_method_27_code 32 = .ok (.aaload, 1) := by decide +kernel
theorem dG_doAdds_33 : decode prog_1_method_27_code 33 = .ok (.getfield 230, 3) := by decide +kernel
theorem dG_doAdds_36 : decode prog_1_method_27_code 36 = .ok (.aaload, 1) := by decide +kernel
theorem dG_doAdds_37 : decode prog_1_method_27_code 37 = .ok (.invokevirtual 254, 3) := by decide +kernel
theorem dG_doAdds_40 : decode prog_1_method_27_code 40 = .ok (.ifCond .eq 22, 3) := by decide +kernel
theorem dG_doAdds_43 : decode prog_1_method_27_code 43 = .ok (.aload_n 0, 1) := by decide +kernel
theorem dG_doAdds_44 : decode prog_1_method_27_code 44 = .ok (.aload_n 0, 1) := by decide +kernel
theorem dG_doAdds_45 : decode prog_1_method_27_code 45 = .ok (.getfield 30, 3) := by decide +kernel
theorem dG_doAdds_48 : decode prog_1_method_27_code 48 = .ok (.aload_n 0, 1) := by decide +kernel
theorem dG_doAdds_49 : decode prog_1_method_27_code 49 = .ok (.getfield 36, 3) := by decide +kernel
theorem dG_doAdds_52 : decode prog_1_method_27_code 52 = .ok (.iload_n 2, 1) := by decide +kernel
theorem dG_doAdds_53 : decode prog_1_method_27_code 53 = .ok (.aaload, 1) := by decide +kernel
theorem dG_doAdds_54 : decode prog_1_method_27_code 54 = .ok (.getfield 230, 3) := by decide +kernel
theorem dG_doAdds_57 : decode prog_1_method_27_code 57 = .ok (.aaload, 1) := by decide +kernel
theorem dG_doAdds_58 : decode prog_1_method_27_code 58 = .ok (.aload_n 1, 1) := by decide +kernel
theorem dG_doAdds_59 : decode prog_1_method_27_code 59 = .ok (.invokevirtual 258, 3) := by decide +kernel
theorem dG_doAdds_62 : decode prog_1_method_27_code 62 = .ok (.iinc 2 1, 3) := by decide +kernel
theorem dG_doAdds_65 : decode prog_1_method_27_code 65 = .ok (.goto (-63), 3) := by decide +kernel
theorem dG_doAdds_68 : decode prog_1_method_27_code 68 = .ok (.return_, 1) := by decide +kernel
theorem dG_mayBeAdded_0 : decode prog_1_method_28_code 0 = .ok (.aload_n 1, 1) := by decide +kernel
theorem dG_mayBeAdded_1 : decode prog_1_method_28_code 1 = .ok (.getfield 262, 3) := by decide +kernel
theorem dG_mayBeAdded_4 : decode prog_1_method_28_code 4 = .ok (.iconst (-1), 1) := by decide +kernel
theorem dG_mayBeAdded_5 : decode prog_1_method_28_code 5 = .ok (.if_icmp .ne 34, 3) := by decide +kernel
theorem dG_mayBeAdded_8 : decode prog_1_method_28_code 8 = .ok (.aload_n 0, 1) := by decide +kernel
theorem dG_mayBeAdded_9 : decode prog_1_method_28_code 9 = .ok (.getfield 18, 3) := by decide +kernel
theorem dG_mayBeAdded_12 : decode prog_1_method_28_code 12 = .ok (.aload_n 1, 1) := by decide +kernel
theorem dG_mayBeAdded_13 : decode prog_1_method_28_code 13 = .ok (.getfield 263, 3) := by decide +kernel
theorem dG_mayBeAdded_16 : decode prog_1_method_28_code 16 = .ok (.aaload, 1) := by decide +kernel
theorem dG_mayBeAdded_17 : decode prog_1_method_28_code 17 = .ok (.getfield 161, 3) := by decide +kernel
theorem dG_mayBeAdded_20 : decode prog_1_method_28_code 20 = .ok (.iconst (-1), 1) := by decide +kernel
theorem dG_mayBeAdded_21 : decode prog_1_method_28_code 21 = .ok (.if_icmp .ne 18, 3) := by decide +kernel
theorem dG_mayBeAdded_24 : decode prog_1_method_28_code 24 = .ok (.aload_n 0, 1) := by decide +kernel
theorem dG_mayBeAdded_25 : decode prog_1_method_28_code 25 = .ok (.aload_n 1, 1) := by decide +kernel
theorem dG_mayBeAdded_26 : decode prog_1_method_28_code 26 = .ok (.getfield 263, 3) := by decide +kernel
theorem dG_mayBeAdded_29 : decode prog_1_method_28_code 29 = .ok (.invokevirtual 266, 3) := by decide +kernel
theorem dG_mayBeAdded_32 : decode prog_1_method_28_code 32 = .ok (.ifCond .ne 7, 3) := by decide +kernel
theorem dG_mayBeAdded_35 : decode prog_1_method_28_code 35 = .ok (.iconst 1, 1) := by decide +kernel
theorem dG_mayBeAdded_36 : decode prog_1_method_28_code 36 = .ok (.goto 4, 3) := by decide +kernel
theorem dG_mayBeAdded_39 : decode prog_1_method_28_code 39 = .ok (.iconst 0, 1) := by decide +kernel
theorem dG_mayBeAdded_40 : decode prog_1_method_28_code 40 = .ok (.ireturn, 1) := by decide +kernel
theorem dG_hasLeaf_0 : decode prog_1_method_29_code 0 = .ok (.iconst 0, 1) := by decide +kernel
theorem dG_hasLeaf_1 : decode prog_1_method_29_code 1 = .ok (.istore_n 2, 1) := by decide +kernel
theorem dG_hasLeaf_2 : decode prog_1_method_29_code 2 = .ok (.iload_n 2, 1) := by decide +kernel
theorem dG_hasLeaf_3 : decode prog_1_method_29_code 3 = .ok (.bipush 16, 2) := by decide +kernel
theorem dG_hasLeaf_5 : decode prog_1_method_29_code 5 = .ok (.if_icmp .ge 21, 3) := by decide +kernel
theorem dG_hasLeaf_8 : decode prog_1_method_29_code 8 = .ok (.aload_n 0, 1) := by decide +kernel
theorem dG_hasLeaf_9 : decode prog_1_method_29_code 9 = .ok (.getfield 40, 3) := by decide +kernel
theorem dG_hasLeaf_12 : decode prog_1_method_29_code 12 = .ok (.iload_n 2, 1) := by decide +kernel
theorem dG_hasLeaf_13 : decode prog_1_method_29_code 13 = .ok (.iaload, 1) := by decide +kernel
theorem dG_hasLeaf_14 : decode prog_1_method_29_code 14 = .ok (.iload_n 1, 1) := by decide +kernel
theorem dG_hasLeaf_15 : decode prog_1_method_29_code 15 = .ok (.if_icmp .ne 5, 3) := by decide +kernel
theorem dG_hasLeaf_18 : decode prog_1_method_29_code 18 = .ok (.iconst 1, 1) := by decide +kernel
theorem dG_hasLeaf_19 : decode prog_1_method_29_code 19 = .ok (.ireturn, 1) := by decide +kernel
theorem dG_hasLeaf_20 : decode prog_1_method_29_code 20 = .ok (.iinc 2 1, 3) := by decide +kernel
theorem dG_hasLeaf_23 : decode prog_1_method_29_code 23 = .ok (.goto (-21), 3) := by decide +kernel
theorem dG_hasLeaf_26 : decode prog_1_method_29_code 26 = .ok (.iconst 0, 1) := by decide +kernel
theorem dG_hasLeaf_27 : decode prog_1_method_29_code 27 = .ok (.ireturn, 1) := by decide +kernel
theorem dG_addBy_0 : decode prog_1_method_30_code 0 = .ok (.aload_n 2, 1) := by decide +kernel
theorem dG_addBy_1 : decode prog_1_method_30_code 1 = .ok (.getfield 60, 3) := by decide +kernel
theorem dG_addBy_4 : decode prog_1_method_30_code 4 = .ok (.invokevirtual 269, 3) := by decide +kernel
theorem dG_addBy_7 : decode prog_1_method_30_code 7 = .ok (.istore_n 3, 1) := by decide +kernel
theorem dG_addBy_8 : decode prog_1_method_30_code 8 = .ok (.iload_n 3, 1) := by decide +kernel
theorem dG_addBy_9 : decode prog_1_method_30_code 9 = .ok (.iconst (-1), 1) := by decide +kernel
theorem dG_addBy_10 : decode prog_1_method_30_code 10 = .ok (.if_icmp .ne 4, 3) := by decide +kernel
theorem dG_addBy_13 : decode prog_1_method_30_code 13 = .ok (.return_, 1) := by decide +kernel
theorem dG_addBy_14 : decode prog_1_method_30_code 14 = .ok (.aload_n 2, 1) := by decide +kernel
theorem dG_addBy_15 : decode prog_1_method_30_code 15 = .ok (.getfield 60, 3) := by decide +kernel
theorem dG_addBy_18 : decode prog_1_method_30_code 18 = .ok (.iload_n 3, 1) := by decide +kernel
theorem dG_addBy_19 : decode prog_1_method_30_code 19 = .ok (.invokestatic 233, 3) := by decide +kernel
theorem dG_addBy_22 : decode prog_1_method_30_code 22 = .ok (.aload_n 1, 1) := by decide +kernel
theorem dG_addBy_23 : decode prog_1_method_30_code 23 = .ok (.getfield 272, 3) := by decide +kernel
theorem dG_addBy_26 : decode prog_1_method_30_code 26 = .ok (.aload_n 2, 1) := by decide +kernel
theorem dG_addBy_27 : decode prog_1_method_30_code 27 = .ok (.getfield 158, 3) := by decide +kernel
theorem dG_addBy_30 : decode prog_1_method_30_code 30 = .ok (.invokevirtual 68, 3) := by decide +kernel
theorem dG_addBy_33 : decode prog_1_method_30_code 33 = .ok (.aload_n 2, 1) := by decide +kernel
theorem dG_addBy_34 : decode prog_1_method_30_code 34 = .ok (.getfield 60, 3) := by decide +kernel
theorem dG_addBy_37 : decode prog_1_method_30_code 37 = .ok (.iload_n 3, 1) := by decide +kernel
theorem dG_addBy_38 : decode prog_1_method_30_code 38 = .ok (.invokevirtual 275, 3) := by decide +kernel
theorem dG_addBy_41 : decode prog_1_method_30_code 41 = .ok (.aload_n 2, 1) := by decide +kernel
theorem dG_addBy_42 : decode prog_1_method_30_code 42 = .ok (.dup, 1) := by decide +kernel
theorem dG_addBy_43 : decode prog_1_method_30_code 43 = .ok (.getfield 138, 3) := by decide +kernel
theorem dG_addBy_46 : decode prog_1_method_30_code 46 = .ok (.iload_n 3, 1) := by decide +kernel
theorem dG_addBy_47 : decode prog_1_method_30_code 47 = .ok (.invokestatic 239, 3) := by decide +kernel
theorem dG_addBy_50 : decode prog_1_method_30_code 50 = .ok (.ior, 1) := by decide +kernel
theorem dG_addBy_51 : decode prog_1_method_30_code 51 = .ok (.putfield 138, 3) := by decide +kernel
theorem dG_addBy_54 : decode prog_1_method_30_code 54 = .ok (.aload_n 0, 1) := by decide +kernel
theorem dG_addBy_55 : decode prog_1_method_30_code 55 = .ok (.getfield 40, 3) := by decide +kernel
theorem dG_addBy_58 : decode prog_1_method_30_code 58 = .ok (.iload_n 3, 1) := by decide +kernel
theorem dG_addBy_59 : decode prog_1_method_30_code 59 = .ok (.aload_n 1, 1) := by decide +kernel
theorem dG_addBy_60 : decode prog_1_method_30_code 60 = .ok (.getfield 263, 3) := by decide +kernel
theorem dG_addBy_63 : decode prog_1_method_30_code 63 = .ok (.iastore, 1) := by decide +kernel
theorem dG_addBy_64 : decode prog_1_method_30_code 64 = .ok (.aload_n 1, 1) := by decide +kernel
theorem dG_addBy_65 : decode prog_1_method_30_code 65 = .ok (.aload_n 2, 1) := by decide +kernel
theorem dG_addBy_66 : decode prog_1_method_30_code 66 = .ok (.getfield 158, 3) := by decide +kernel
theorem dG_addBy_69 : decode prog_1_method_30_code 69 = .ok (.putfield 262, 3) := by decide +kernel
theorem dG_addBy_72 : decode prog_1_method_30_code 72 = .ok (.aload_n 1, 1) := by decide +kernel
theorem dG_addBy_73 : decode prog_1_method_30_code 73 = .ok (.iload_n 3, 1) := by decide +kernel
theorem dG_addBy_74 : decode prog_1_method_30_code 74 = .ok (.putfield 278, 3) := by decide +kernel
theorem dG_addBy_77 : decode prog_1_method_30_code 77 = .ok (.return_, 1) := by decide +kernel
theorem dG_makePath_0 : decode prog_1_method_31_code 0 = .ok (.aload_n 1, 1) := by decide +kernel
theorem dG_makePath_1 : decode prog_1_method_31_code 1 = .ok (.getfield 215, 3) := by decide +kernel
theorem dG_makePath_4 : decode prog_1_method_31_code 4 = .ok (.istore_n 2, 1) := by decide +kernel
theorem dG_makePath_5 : decode prog_1_method_31_code 5 = .ok (.aload_n 1, 1) := by decide +kernel
theorem dG_makePath_6 : decode prog_1_method_31_code 6 = .ok (.getfield 60, 3) := by decide +kernel
theorem dG_makePath_9 : decode prog_1_method_31_code 9 = .ok (.iload_n 2, 1) := by decide +kernel
theorem dG_makePath_10 : decode prog_1_method_31_code 10 = .ok (.invokestatic 233, 3) := by decide +kernel
theorem dG_makePath_13 : decode prog_1_method_31_code 13 = .ok (.aload_n 0, 1) := by decide +kernel
theorem dG_makePath_14 : decode prog_1_method_31_code 14 = .ok (.getfield 12, 3) := by decide +kernel
theorem dG_makePath_17 : decode prog_1_method_31_code 17 = .ok (.invokevirtual 64, 3) := by decide +kernel
theorem dG_makePath_20 : decode prog_1_method_31_code 20 = .ok (.aload_n 1, 1) := by decide +kernel
theorem dG_makePath_21 : decode prog_1_method_31_code 21 = .ok (.getfield 158, 3) := by decide +kernel
theorem dG_makePath_24 : decode prog_1_method_31_code 24 = .ok (.invokevirtual 68, 3) := by decide +kernel
theorem dG_makePath_27 : decode prog_1_method_31_code 27 = .ok (.iconst (-1), 1) := by decide +kernel
theorem dG_makePath_28 : decode prog_1_method_31_code 28 = .ok (.istore_n 3, 1) := by decide +kernel
theorem dG_makePath_29 : decode prog_1_method_31_code 29 = .ok (.iconst 1, 1) := by decide +kernel
theorem dG_makePath_30 : decode prog_1_method_31_code 30 = .ok (.istore 4, 2) := by decide +kernel
theorem dG_makePath_32 : decode prog_1_method_31_code 32 = .ok (.iload 4, 2) := by decide +kernel
theorem dG_makePath_34 : decode prog_1_method_31_code 34 = .ok (.aload_n 1, 1) := by decide +kernel
theorem dG_makePath_35 : decode prog_1_method_31_code 35 = .ok (.getfield 60, 3) := by decide +kernel
theorem dG_makePath_38 : decode prog_1_method_31_code 38 = .ok (.getfield 212, 3) := by decide +kernel
theorem dG_makePath_41 : decode prog_1_method_31_code 41 = .ok (.if_icmp .gt 146, 3) := by decide +kernel
theorem dG_makePath_44 : decode prog_1_method_31_code 44 = .ok (.iload_n 2, 1) := by decide +kernel
theorem dG_makePath_45 : decode prog_1_method_31_code 45 = .ok (.iload 4, 2) := by decide +kernel
theorem dG_makePath_47 : decode prog_1_method_31_code 47 = .ok (.invokestatic 279, 3) := by decide +kernel
theorem dG_makePath_50 : decode prog_1_method_31_code 50 = .ok (.istore 5, 2) := by decide +kernel
theorem dG_makePath_52 : decode prog_1_method_31_code 52 = .ok (.iload_n 2, 1) := by decide +kernel
theorem dG_makePath_53 : decode prog_1_method_31_code 53 = .ok (.iload 4, 2) := by decide +kernel
theorem dG_makePath_55 : decode prog_1_method_31_code 55 = .ok (.invokestatic 282, 3) := by decide +kernel
theorem dG_makePath_58 : decode prog_1_method_31_code 58 = .ok (.istore 6, 2) := by decide +kernel
theorem dG_makePath_60 : decode prog_1_method_31_code 60 = .ok (.aload_n 1, 1) := by decide +kernel
theorem dG_makePath_61 : decode prog_1_method_31_code 61 = .ok (.getfield 60, 3) := by decide +kernel
theorem dG_makePath_64 : decode prog_1_method_31_code 64 = .ok (.iload 6, 2) := by decide +kernel
theorem dG_makePath_66 : decode prog_1_method_31_code 66 = .ok (.iload 4, 2) := by decide +kernel
theorem dG_makePath_68 : decode prog_1_method_31_code 68 = .ok (.iconst 1, 1) := by decide +kernel
theorem dG_makePath_69 : decode prog_1_method_31_code 69 = .ok (.isub, 1) := by decide +kernel
theorem dG_makePath_70 : decode prog_1_method_31_code 70 = .ok (.invokevirtual 203, 3) := by decide +kernel
theorem dG_makePath_73 : decode prog_1_method_31_code 73 = .ok (.istore 7, 2) := by decide +kernel
theorem dG_makePath_75 : decode prog_1_method_31_code 75 = .ok (.iload 7, 2) := by decide +kernel
theorem dG_makePath_77 : decode prog_1_method_31_code 77 = .ok (.ifCond .ne 15, 3) := by decide +kernel
theorem dG_makePath_80 : decode prog_1_method_31_code 80 = .ok (.aload_n 1, 1) := by decide +kernel
theorem dG_makePath_81 : decode prog_1_method_31_code 81 = .ok (.getfield 60, 3) := by decide +kernel
theorem dG_makePath_84 : decode prog_1_method_31_code 84 = .ok (.iload 5, 2) := by decide +kernel
theorem dG_makePath_86 : decode prog_1_method_31_code 86 = .ok (.invokevirtual 285, 3) := by decide +kernel
theorem dG_makePath_89 : decode prog_1_method_31_code 89 = .ok (.goto 92, 3) := by decide +kernel
theorem dG_makePath_92 : decode prog_1_method_31_code 92 = .ok (.iload_n 3, 1) := by decide +kernel
theorem dG_makePath_93 : decode prog_1_method_31_code 93 = .ok (.iconst (-1), 1) := by decide +kernel
theorem dG_makePath_94 : decode prog_1_method_31_code 94 = .ok (.if_icmp .ne 13, 3) := by decide +kernel
theorem dG_makePath_97 : decode prog_1_method_31_code 97 = .ok (.aload_n 0, 1) := by decide +kernel
theorem dG_makePath_98 : decode prog_1_method_31_code 98 = .ok (.getfield 12, 3) := by decide +kernel
theorem dG_makePath_101 : decode prog_1_method_31_code 101 = .ok (.invokevirtual 64, 3) := by decide +kernel
theorem dG_makePath_104 : decode prog_1_method_31_code 104 = .ok (.goto 11, 3) := by decide +kernel
theorem dG_makePath_107 : decode prog_1_method_31_code 107 = .ok (.aload_n 0, 1) := by decide +kernel
theorem dG_makePath_108 : decode prog_1_method_31_code 108 = .ok (.getfield 12, 3) := by decide +kernel
theorem dG_makePath_111 : decode prog_1_method_31_code 111 = .ok (.iload_n 3, 1) := by decide +kernel
theorem dG_makePath_112 : decode prog_1_method_31_code 112 = .ok (.invokevirtual 288, 3) := by decide +kernel
theorem dG_makePath_115 : decode prog_1_method_31_code 115 = .ok (.istore_n 3, 1) := by decide +kernel
theorem dG_makePath_116 : decode prog_1_method_31_code 116 = .ok (.aload_n 0, 1) := by decide +kernel
theorem dG_makePath_117 : decode prog_1_method_31_code 117 = .ok (.aload_n 1, 1) := by decide +kernel
theorem dG_makePath_118 : decode prog_1_method_31_code 118 = .ok (.iload 7, 2) := by decide +kernel
theorem dG_makePath_120 : decode prog_1_method_31_code 120 = .ok (.aload_n 1, 1) := by decide +kernel
theorem dG_makePath_121 : decode prog_1_method_31_code 121 = .ok (.getfield 138, 3) := by decide +kernel
theorem dG_makePath_124 : decode prog_1_method_31_code 124 = .ok (.invokestatic 291, 3) := by decide +kernel
theorem dG_makePath_127 : decode prog_1_method_31_code 127 = .ok (.iconst (-1), 1) := by decide +kernel
theorem dG_makePath_128 : decode prog_1_method_31_code 128 = .ok (.ixor, 1) := by decide +kernel
theorem dG_makePath_129 : decode prog_1_method_31_code 129 = .ok (.iand, 1) := by decide +kernel
theorem dG_makePath_130 : decode prog_1_method_31_code 130 = .ok (.iload_n 3, 1) := by decide +kernel
theorem dG_makePath_131 : decode prog_1_method_31_code 131 = .ok (.invokevirtual 294, 3) := by decide +kernel
theorem dG_makePath_134 : decode prog_1_method_31_code 134 = .ok (.aload_n 0, 1) := by decide +kernel
theorem dG_makePath_135 : decode prog_1_method_31_code 135 = .ok (.aload_n 1, 1) := by decide +kernel
theorem dG_makePath_136 : decode prog_1_method_31_code 136 = .ok (.iload 6, 2) := by decide +kernel
theorem dG_makePath_138 : decode prog_1_method_31_code 138 = .ok (.iload 4, 2) := by decide +kernel
theorem dG_makePath_140 : decode prog_1_method_31_code 140 = .ok (.iconst 1, 1) := by decide +kernel
theorem dG_makePath_141 : decode prog_1_method_31_code 141 = .ok (.isub, 1) := by decide +kernel
theorem dG_makePath_142 : decode prog_1_method_31_code 142 = .ok (.iload_n 3, 1) := by decide +kernel
theorem dG_makePath_143 : decode prog_1_method_31_code 143 = .ok (.invokevirtual 298, 3) := by decide +kernel
theorem dG_makePath_146 : decode prog_1_method_31_code 146 = .ok (.aload_n 1, 1) := by decide +kernel
theorem dG_makePath_147 : decode prog_1_method_31_code 147 = .ok (.getfield 60, 3) := by decide +kernel
theorem dG_makePath_150 : decode prog_1_method_31_code 150 = .ok (.iload 5, 2) := by decide +kernel
theorem dG_makePath_152 : decode prog_1_method_31_code 152 = .ok (.aload_n 0, 1) := by decide +kernel
theorem dG_makePath_153 : decode prog_1_method_31_code 153 = .ok (.getfield 12, 3) := by decide +kernel
theorem dG_makePath_156 : decode prog_1_method_31_code 156 = .ok (.iload_n 3, 1) := by decide +kernel
theorem dG_makePath_157 : decode prog_1_method_31_code 157 = .ok (.invokevirtual 288, 3) := by decide +kernel
theorem dG_makePath_160 : decode prog_1_method_31_code 160 = .ok (.aload_n 1, 1) := by decide +kernel
theorem dG_makePath_161 : decode prog_1_method_31_code 161 = .ok (.getfield 158, 3) := by decide +kernel
theorem dG_makePath_164 : decode prog_1_method_31_code 164 = .ok (.invokevirtual 68, 3) := by decide +kernel
theorem dG_makePath_167 : decode prog_1_method_31_code 167 = .ok (.aload_n 1, 1) := by decide +kernel
theorem dG_makePath_168 : decode prog_1_method_31_code 168 = .ok (.dup, 1) := by decide +kernel
theorem dG_makePath_169 : decode prog_1_method_31_code 169 = .ok (.getfield 218, 3) := by decide +kernel
theorem dG_makePath_172 : decode prog_1_method_31_code 172 = .ok (.iload 5, 2) := by decide +kernel
theorem dG_makePath_174 : decode prog_1_method_31_code 174 = .ok (.invokestatic 239, 3) := by decide +kernel
theorem dG_makePath_177 : decode prog_1_method_31_code 177 = .ok (.ior, 1) := by decide +kernel
theorem dG_makePath_178 : decode prog_1_method_31_code 178 = .ok (.putfield 218, 3) := by decide +kernel
theorem dG_makePath_181 : decode prog_1_method_31_code 181 = .ok (.iinc 4 1, 3) := by decide +kernel
theorem dG_makePath_184 : decode prog_1_method_31_code 184 = .ok (.goto (-152), 3) := by decide +kernel
theorem dG_makePath_187 : decode prog_1_method_31_code 187 = .ok (.iload_n 3, 1) := by decide +kernel
theorem dG_makePath_188 : decode prog_1_method_31_code 188 = .ok (.iconst (-1), 1) := by decide +kernel
theorem dG_makePath_189 : decode prog_1_method_31_code 189 = .ok (.if_icmp .ne 13, 3) := by decide +kernel
theorem dG_makePath_192 : decode prog_1_method_31_code 192 = .ok (.aload_n 0, 1) := by decide +kernel
theorem dG_makePath_193 : decode prog_1_method_31_code 193 = .ok (.getfield 12, 3) := by decide +kernel
theorem dG_makePath_196 : decode prog_1_method_31_code 196 = .ok (.invokevirtual 64, 3) := by decide +kernel
theorem dG_makePath_199 : decode prog_1_method_31_code 199 = .ok (.goto 11, 3) := by decide +kernel
theorem dG_makePath_202 : decode prog_1_method_31_code 202 = .ok (.aload_n 0, 1) := by decide +kernel
theorem dG_makePath_203 : decode prog_1_method_31_code 203 = .ok (.getfield 12, 3) := by decide +kernel
theorem dG_makePath_206 : decode prog_1_method_31_code 206 = .ok (.iload_n 3, 1) := by decide +kernel
theorem dG_makePath_207 : decode prog_1_method_31_code 207 = .ok (.invokevirtual 288, 3) := by decide +kernel
theorem dG_makePath_210 : decode prog_1_method_31_code 210 = .ok (.ireturn, 1) := by decide +kernel
theorem dG_sideNode_0 : decode prog_1_method_42_code 0 = .ok (.iload_n 0, 1) := by decide +kernel
theorem dG_sideNode_1 : decode prog_1_method_42_code 1 = .ok (.iconst 1, 1) := by decide +kernel
theorem dG_sideNode_2 : decode prog_1_method_42_code 2 = .ok (.iload_n 1, 1) := by decide +kernel
theorem dG_sideNode_3 : decode prog_1_method_42_code 3 = .ok (.iconst 1, 1) := by decide +kernel
theorem dG_sideNode_4 : decode prog_1_method_42_code 4 = .ok (.isub, 1) := by decide +kernel
theorem dG_sideNode_5 : decode prog_1_method_42_code 5 = .ok (.ishl, 1) := by decide +kernel
theorem dG_sideNode_6 : decode prog_1_method_42_code 6 = .ok (.ixor, 1) := by decide +kernel
theorem dG_sideNode_7 : decode prog_1_method_42_code 7 = .ok (.iload_n 1, 1) := by decide +kernel
theorem dG_sideNode_8 : decode prog_1_method_42_code 8 = .ok (.iconst 1, 1) := by decide +kernel
theorem dG_sideNode_9 : decode prog_1_method_42_code 9 = .ok (.isub, 1) := by decide +kernel
theorem dG_sideNode_10 : decode prog_1_method_42_code 10 = .ok (.invokestatic 279, 3) := by decide +kernel
theorem dG_sideNode_13 : decode prog_1_method_42_code 13 = .ok (.ireturn, 1) := by decide +kernel
theorem dG_sendToNodes_0 : decode prog_1_method_32_code 0 = .ok (.iconst 0, 1) := by decide +kernel
theorem dG_sendToNodes_1 : decode prog_1_method_32_code 1 = .ok (.istore 4, 2) := by decide +kernel
theorem dG_sendToNodes_3 : decode prog_1_method_32_code 3 = .ok (.iload 4, 2) := by decide +kernel
theorem dG_sendToNodes_5 : decode prog_1_method_32_code 5 = .ok (.bipush 31, 2) := by decide +kernel
theorem dG_sendToNodes_7 : decode prog_1_method_32_code 7 = .ok (.if_icmp .ge 34, 3) := by decide +kernel
theorem dG_sendToNodes_10 : decode prog_1_method_32_code 10 = .ok (.iload_n 2, 1) := by decide +kernel
theorem dG_sendToNodes_11 : decode prog_1_method_32_code 11 = .ok (.iload 4, 2) := by decide +kernel
theorem dG_sendToNodes_13 : decode prog_1_method_32_code 13 = .ok (.invokestatic 239, 3) := by decide +kernel
theorem dG_sendToNodes_16 : decode prog_1_method_32_code 16 = .ok (.iand, 1) := by decide +kernel
theorem dG_sendToNodes_17 : decode prog_1_method_32_code 17 = .ok (.ifCond .eq 18, 3) := by decide +kernel
theorem dG_sendToNodes_20 : decode prog_1_method_32_code 20 = .ok (.aload_n 0, 1) := by decide +kernel
theorem dG_sendToNodes_21 : decode prog_1_method_32_code 21 = .ok (.aload_n 1, 1) := by decide +kernel
theorem dG_sendToNodes_22 : decode prog_1_method_32_code 22 = .ok (.aload_n 1, 1) := by decide +kernel
theorem dG_sendToNodes_23 : decode prog_1_method_32_code 23 = .ok (.getfield 60, 3) := by decide +kernel
theorem dG_sendToNodes_26 : decode prog_1_method_32_code 26 = .ok (.iload 4, 2) := by decide +kernel
theorem dG_sendToNodes_28 : decode prog_1_method_32_code 28 = .ok (.invokevirtual 187, 3) := by decide +kernel
theorem dG_sendToNodes_31 : decode prog_1_method_32_code 31 = .ok (.iload_n 3, 1) := by decide +kernel
theorem dG_sendToNodes_32 : decode prog_1_method_32_code 32 = .ok (.invokevirtual 302, 3) := by decide +kernel
theorem dG_sendToNodes_35 : decode prog_1_method_32_code 35 = .ok (.iinc 4 1, 3) := by decide +kernel
theorem dG_sendToNodes_38 : decode prog_1_method_32_code 38 = .ok (.goto (-35), 3) := by decide +kernel
theorem dG_sendToNodes_41 : decode prog_1_method_32_code 41 = .ok (.return_, 1) := by decide +kernel
theorem dG_encrypt_0 : decode prog_1_method_35_code 0 = .ok (.aload_n 0, 1) := by decide +kernel
theorem dG_encrypt_1 : decode prog_1_method_35_code 1 = .ok (.getfield 12, 3) := by decide +kernel
theorem dG_encrypt_4 : decode prog_1_method_35_code 4 = .ok (.iload_n 2, 1) := by decide +kernel
theorem dG_encrypt_5 : decode prog_1_method_35_code 5 = .ok (.iconst (-1), 1) := by decide +kernel
theorem dG_encrypt_6 : decode prog_1_method_35_code 6 = .ok (.iload_n 3, 1) := by decide +kernel
theorem dG_encrypt_7 : decode prog_1_method_35_code 7 = .ok (.invokevirtual 311, 3) := by decide +kernel
theorem dG_encrypt_10 : decode prog_1_method_35_code 10 = .ok (.aload_n 1, 1) := by decide +kernel
theorem dG_encrypt_11 : decode prog_1_method_35_code 11 = .ok (.dup, 1) := by decide +kernel
theorem dG_encrypt_12 : decode prog_1_method_35_code 12 = .ok (.getfield 221, 3) := by decide +kernel
theorem dG_encrypt_15 : decode prog_1_method_35_code 15 = .ok (.iconst 1, 1) := by decide +kernel
theorem dG_encrypt_16 : decode prog_1_method_35_code 16 = .ok (.iadd, 1) := by decide +kernel
theorem dG_encrypt_17 : decode prog_1_method_35_code 17 = .ok (.putfield 221, 3) := by decide +kernel
theorem dG_encrypt_20 : decode prog_1_method_35_code 20 = .ok (.return_, 1) := by decide +kernel
theorem dG_sendToAdded_0 : decode prog_1_method_33_code 0 = .ok (.iconst 0, 1) := by decide +kernel
theorem dG_sendToAdded_1 : decode prog_1_method_33_code 1 = .ok (.istore 5, 2) := by decide +kernel
theorem dG_sendToAdded_3 : decode prog_1_method_33_code 3 = .ok (.iload 5, 2) := by decide +kernel
theorem dG_sendToAdded_5 : decode prog_1_method_33_code 5 = .ok (.aload_n 0, 1) := by decide +kernel
theorem dG_sendToAdded_6 : decode prog_1_method_33_code 6 = .ok (.getfield 90, 3) := by decide +kernel
theorem dG_sendToAdded_9 : decode prog_1_method_33_code 9 = .ok (.if_icmp .ge 61, 3) := by decide +kernel
theorem dG_sendToAdded_12 : decode prog_1_method_33_code 12 = .ok (.aload_n 0, 1) := by decide +kernel
theorem dG_sendToAdded_13 : decode prog_1_method_33_code 13 = .ok (.getfield 30, 3) := by decide +kernel
theorem dG_sendToAdded_16 : decode prog_1_method_33_code 16 = .ok (.iload 5, 2) := by decide +kernel
theorem dG_sendToAdded_18 : decode prog_1_method_33_code 18 = .ok (.aaload, 1) := by decide +kernel
theorem dG_sendToAdded_19 : decode prog_1_method_33_code 19 = .ok (.getfield 262, 3) := by decide +kernel
theorem dG_sendToAdded_22 : decode prog_1_method_33_code 22 = .ok (.aload_n 1, 1) := by decide +kernel
theorem dG_sendToAdded_23 : decode prog_1_method_33_code 23 = .ok (.getfield 158, 3) := by decide +kernel
theorem dG_sendToAdded_26 : decode prog_1_method_33_code 26 = .ok (.if_icmp .ne 38, 3) := by decide +kernel
theorem dG_sendToAdded_29 : decode prog_1_method_33_code 29 = .ok (.aload_n 0, 1) := by decide +kernel
theorem dG_sendToAdded_30 : decode prog_1_method_33_code 30 = .ok (.getfield 30, 3) := by decide +kernel
theorem dG_sendToAdded_33 : decode prog_1_method_33_code 33 = .ok (.iload 5, 2) := by decide +kernel
theorem dG_sendToAdded_35 : decode prog_1_method_33_code 35 = .ok (.aaload, 1) := by decide +kernel
theorem dG_sendToAdded_36 : decode prog_1_method_33_code 36 = .ok (.getfield 278, 3) := by decide +kernel
theorem dG_sendToAdded_39 : decode prog_1_method_33_code 39 = .ok (.iload_n 3, 1) := by decide +kernel
theorem dG_sendToAdded_40 : decode prog_1_method_33_code 40 = .ok (.invokestatic 279, 3) := by decide +kernel
theorem dG_sendToAdded_43 : decode prog_1_method_33_code 43 = .ok (.iload_n 2, 1) := by decide +kernel
theorem dG_sendToAdded_44 : decode prog_1_method_33_code 44 = .ok (.if_icmp .ne 20, 3) := by decide +kernel
theorem dG_sendToAdded_47 : decode prog_1_method_33_code 47 = .ok (.aload_n 0, 1) := by decide +kernel
theorem dG_sendToAdded_48 : decode prog_1_method_33_code 48 = .ok (.aload_n 1, 1) := by decide +kernel
theorem dG_sendToAdded_49 : decode prog_1_method_33_code 49 = .ok (.aload_n 0, 1) := by decide +kernel
theorem dG_sendToAdded_50 : decode prog_1_method_33_code 50 = .ok (.getfield 30, 3) := by decide +kernel
theorem dG_sendToAdded_53 : decode prog_1_method_33_code 53 = .ok (.iload 5, 2) := by decide +kernel
theorem dG_sendToAdded_55 : decode prog_1_method_33_code 55 = .ok (.aaload, 1) := by decide +kernel
theorem dG_sendToAdded_56 : decode prog_1_method_33_code 56 = .ok (.getfield 305, 3) := by decide +kernel
theorem dG_sendToAdded_59 : decode prog_1_method_33_code 59 = .ok (.iload 4, 2) := by decide +kernel
theorem dG_sendToAdded_61 : decode prog_1_method_33_code 61 = .ok (.invokevirtual 302, 3) := by decide +kernel
theorem dG_sendToAdded_64 : decode prog_1_method_33_code 64 = .ok (.iinc 5 1, 3) := by decide +kernel
theorem dG_sendToAdded_67 : decode prog_1_method_33_code 67 = .ok (.goto (-64), 3) := by decide +kernel
theorem dG_sendToAdded_70 : decode prog_1_method_33_code 70 = .ok (.return_, 1) := by decide +kernel
theorem dG_openEpoch_0 : decode prog_1_method_34_code 0 = .ok (.aload_n 0, 1) := by decide +kernel
theorem dG_openEpoch_1 : decode prog_1_method_34_code 1 = .ok (.getfield 12, 3) := by decide +kernel
theorem dG_openEpoch_4 : decode prog_1_method_34_code 4 = .ok (.aload_n 0, 1) := by decide +kernel
theorem dG_openEpoch_5 : decode prog_1_method_34_code 5 = .ok (.getfield 12, 3) := by decide +kernel
theorem dG_openEpoch_8 : decode prog_1_method_34_code 8 = .ok (.aload_n 1, 1) := by decide +kernel
theorem dG_openEpoch_9 : decode prog_1_method_34_code 9 = .ok (.getfield 72, 3) := by decide +kernel
theorem dG_openEpoch_12 : decode prog_1_method_34_code 12 = .ok (.invokevirtual 288, 3) := by decide +kernel
theorem dG_openEpoch_15 : decode prog_1_method_34_code 15 = .ok (.iload_n 3, 1) := by decide +kernel
theorem dG_openEpoch_16 : decode prog_1_method_34_code 16 = .ok (.invokevirtual 308, 3) := by decide +kernel
theorem dG_openEpoch_19 : decode prog_1_method_34_code 19 = .ok (.istore 4, 2) := by decide +kernel
theorem dG_openEpoch_21 : decode prog_1_method_34_code 21 = .ok (.iconst 0, 1) := by decide +kernel
theorem dG_openEpoch_22 : decode prog_1_method_34_code 22 = .ok (.istore 5, 2) := by decide +kernel
theorem dG_openEpoch_24 : decode prog_1_method_34_code 24 = .ok (.iload 5, 2) := by decide +kernel
theorem dG_openEpoch_26 : decode prog_1_method_34_code 26 = .ok (.aload_n 0, 1) := by decide +kernel
theorem dG_openEpoch_27 : decode prog_1_method_34_code 27 = .ok (.getfield 90, 3) := by decide +kernel
theorem dG_openEpoch_30 : decode prog_1_method_34_code 30 = .ok (.if_icmp .ge 43, 3) := by decide +kernel
theorem dG_openEpoch_33 : decode prog_1_method_34_code 33 = .ok (.aload_n 0, 1) := by decide +kernel
theorem dG_openEpoch_34 : decode prog_1_method_34_code 34 = .ok (.getfield 30, 3) := by decide +kernel
theorem dG_openEpoch_37 : decode prog_1_method_34_code 37 = .ok (.iload 5, 2) := by decide +kernel
theorem dG_openEpoch_39 : decode prog_1_method_34_code 39 = .ok (.aaload, 1) := by decide +kernel
theorem dG_openEpoch_40 : decode prog_1_method_34_code 40 = .ok (.getfield 262, 3) := by decide +kernel
theorem dG_openEpoch_43 : decode prog_1_method_34_code 43 = .ok (.aload_n 2, 1) := by decide +kernel
theorem dG_openEpoch_44 : decode prog_1_method_34_code 44 = .ok (.getfield 158, 3) := by decide +kernel
theorem dG_openEpoch_47 : decode prog_1_method_34_code 47 = .ok (.if_icmp .ne 20, 3) := by decide +kernel
theorem dG_openEpoch_50 : decode prog_1_method_34_code 50 = .ok (.aload_n 0, 1) := by decide +kernel
theorem dG_openEpoch_51 : decode prog_1_method_34_code 51 = .ok (.aload_n 2, 1) := by decide +kernel
theorem dG_openEpoch_52 : decode prog_1_method_34_code 52 = .ok (.aload_n 0, 1) := by decide +kernel
theorem dG_openEpoch_53 : decode prog_1_method_34_code 53 = .ok (.getfield 30, 3) := by decide +kernel
theorem dG_openEpoch_56 : decode prog_1_method_34_code 56 = .ok (.iload 5, 2) := by decide +kernel
theorem dG_openEpoch_58 : decode prog_1_method_34_code 58 = .ok (.aaload, 1) := by decide +kernel
theorem dG_openEpoch_59 : decode prog_1_method_34_code 59 = .ok (.getfield 305, 3) := by decide +kernel
theorem dG_openEpoch_62 : decode prog_1_method_34_code 62 = .ok (.iload 4, 2) := by decide +kernel
theorem dG_openEpoch_64 : decode prog_1_method_34_code 64 = .ok (.invokevirtual 302, 3) := by decide +kernel
theorem dG_openEpoch_67 : decode prog_1_method_34_code 67 = .ok (.iinc 5 1, 3) := by decide +kernel
theorem dG_openEpoch_70 : decode prog_1_method_34_code 70 = .ok (.goto (-46), 3) := by decide +kernel
theorem dG_openEpoch_73 : decode prog_1_method_34_code 73 = .ok (.aload_n 2, 1) := by decide +kernel
theorem dG_openEpoch_74 : decode prog_1_method_34_code 74 = .ok (.aload_n 0, 1) := by decide +kernel
theorem dG_openEpoch_75 : decode prog_1_method_34_code 75 = .ok (.getfield 12, 3) := by decide +kernel
theorem dG_openEpoch_78 : decode prog_1_method_34_code 78 = .ok (.iload 4, 2) := by decide +kernel
theorem dG_openEpoch_80 : decode prog_1_method_34_code 80 = .ok (.invokevirtual 288, 3) := by decide +kernel
theorem dG_openEpoch_83 : decode prog_1_method_34_code 83 = .ok (.putfield 72, 3) := by decide +kernel
theorem dG_openEpoch_86 : decode prog_1_method_34_code 86 = .ok (.aload_n 0, 1) := by decide +kernel
theorem dG_openEpoch_87 : decode prog_1_method_34_code 87 = .ok (.getfield 24, 3) := by decide +kernel
theorem dG_openEpoch_90 : decode prog_1_method_34_code 90 = .ok (.aload_n 0, 1) := by decide +kernel
theorem dG_openEpoch_91 : decode prog_1_method_34_code 91 = .ok (.getfield 76, 3) := by decide +kernel
theorem dG_openEpoch_94 : decode prog_1_method_34_code 94 = .ok (.aload_n 2, 1) := by decide +kernel
theorem dG_openEpoch_95 : decode prog_1_method_34_code 95 = .ok (.aastore, 1) := by decide +kernel
theorem dG_openEpoch_96 : decode prog_1_method_34_code 96 = .ok (.aload_n 0, 1) := by decide +kernel
theorem dG_openEpoch_97 : decode prog_1_method_34_code 97 = .ok (.dup, 1) := by decide +kernel
theorem dG_openEpoch_98 : decode prog_1_method_34_code 98 = .ok (.getfield 76, 3) := by decide +kernel
theorem dG_openEpoch_101 : decode prog_1_method_34_code 101 = .ok (.iconst 1, 1) := by decide +kernel
theorem dG_openEpoch_102 : decode prog_1_method_34_code 102 = .ok (.iadd, 1) := by decide +kernel
theorem dG_openEpoch_103 : decode prog_1_method_34_code 103 = .ok (.putfield 76, 3) := by decide +kernel
theorem dG_openEpoch_106 : decode prog_1_method_34_code 106 = .ok (.return_, 1) := by decide +kernel
theorem dG_come_0 : decode prog_1_method_7_code 0 = .ok (.iload_n 1, 1) := by decide +kernel
theorem dG_come_1 : decode prog_1_method_7_code 1 = .ok (.invokestatic 83, 3) := by decide +kernel
theorem dG_come_4 : decode prog_1_method_7_code 4 = .ok (.ifCond .ne 11, 3) := by decide +kernel
theorem dG_come_7 : decode prog_1_method_7_code 7 = .ok (.new 87, 3) := by decide +kernel
theorem dG_come_10 : decode prog_1_method_7_code 10 = .ok (.dup, 1) := by decide +kernel
theorem dG_come_11 : decode prog_1_method_7_code 11 = .ok (.invokespecial 89, 3) := by decide +kernel
theorem dG_come_14 : decode prog_1_method_7_code 14 = .ok (.athrow, 1) := by decide +kernel
theorem dG_come_15 : decode prog_1_method_7_code 15 = .ok (.aload_n 0, 1) := by decide +kernel
theorem dG_come_16 : decode prog_1_method_7_code 16 = .ok (.getfield 18, 3) := by decide +kernel
theorem dG_come_19 : decode prog_1_method_7_code 19 = .ok (.iload_n 1, 1) := by decide +kernel
theorem dG_come_20 : decode prog_1_method_7_code 20 = .ok (.aaload, 1) := by decide +kernel
theorem dG_come_21 : decode prog_1_method_7_code 21 = .ok (.astore_n 2, 1) := by decide +kernel
theorem dG_come_22 : decode prog_1_method_7_code 22 = .ok (.aload_n 2, 1) := by decide +kernel
theorem dG_come_23 : decode prog_1_method_7_code 23 = .ok (.getfield 161, 3) := by decide +kernel
theorem dG_come_26 : decode prog_1_method_7_code 26 = .ok (.iconst (-1), 1) := by decide +kernel
theorem dG_come_27 : decode prog_1_method_7_code 27 = .ok (.if_icmp .eq 44, 3) := by decide +kernel
theorem dG_come_30 : decode prog_1_method_7_code 30 = .ok (.aload_n 2, 1) := by decide +kernel
theorem dG_come_31 : decode prog_1_method_7_code 31 = .ok (.getfield 161, 3) := by decide +kernel
theorem dG_come_34 : decode prog_1_method_7_code 34 = .ok (.aload_n 0, 1) := by decide +kernel
theorem dG_come_35 : decode prog_1_method_7_code 35 = .ok (.getfield 76, 3) := by decide +kernel
theorem dG_come_38 : decode prog_1_method_7_code 38 = .ok (.iconst 1, 1) := by decide +kernel
theorem dG_come_39 : decode prog_1_method_7_code 39 = .ok (.isub, 1) := by decide +kernel
theorem dG_come_40 : decode prog_1_method_7_code 40 = .ok (.if_icmp .lt 11, 3) := by decide +kernel
theorem dG_come_43 : decode prog_1_method_7_code 43 = .ok (.new 93, 3) := by decide +kernel
theorem dG_come_46 : decode prog_1_method_7_code 46 = .ok (.dup, 1) := by decide +kernel
theorem dG_come_47 : decode prog_1_method_7_code 47 = .ok (.invokespecial 95, 3) := by decide +kernel
theorem dG_come_50 : decode prog_1_method_7_code 50 = .ok (.athrow, 1) := by decide +kernel
theorem dG_come_51 : decode prog_1_method_7_code 51 = .ok (.aload_n 2, 1) := by decide +kernel
theorem dG_come_52 : decode prog_1_method_7_code 52 = .ok (.aload_n 0, 1) := by decide +kernel
theorem dG_come_53 : decode prog_1_method_7_code 53 = .ok (.getfield 24, 3) := by decide +kernel
theorem dG_come_56 : decode prog_1_method_7_code 56 = .ok (.aload_n 2, 1) := by decide +kernel
theorem dG_come_57 : decode prog_1_method_7_code 57 = .ok (.getfield 161, 3) := by decide +kernel
theorem dG_come_60 : decode prog_1_method_7_code 60 = .ok (.iconst 1, 1) := by decide +kernel
theorem dG_come_61 : decode prog_1_method_7_code 61 = .ok (.iadd, 1) := by decide +kernel
theorem dG_come_62 : decode prog_1_method_7_code 62 = .ok (.aaload, 1) := by decide +kernel
theorem dG_come_63 : decode prog_1_method_7_code 63 = .ok (.invokevirtual 164, 3) := by decide +kernel
theorem dG_come_66 : decode prog_1_method_7_code 66 = .ok (.aload_n 2, 1) := by decide +kernel
theorem dG_come_67 : decode prog_1_method_7_code 67 = .ok (.getfield 161, 3) := by decide +kernel
theorem dG_come_70 : decode prog_1_method_7_code 70 = .ok (.ireturn, 1) := by decide +kernel
theorem dG_come_71 : decode prog_1_method_7_code 71 = .ok (.aload_n 0, 1) := by decide +kernel
theorem dG_come_72 : decode prog_1_method_7_code 72 = .ok (.iload_n 1, 1) := by decide +kernel
theorem dG_come_73 : decode prog_1_method_7_code 73 = .ok (.invokevirtual 167, 3) := by decide +kernel
theorem dG_come_76 : decode prog_1_method_7_code 76 = .ok (.istore_n 3, 1) := by decide +kernel
theorem dG_come_77 : decode prog_1_method_7_code 77 = .ok (.iload_n 3, 1) := by decide +kernel
theorem dG_come_78 : decode prog_1_method_7_code 78 = .ok (.iconst (-1), 1) := by decide +kernel
theorem dG_come_79 : decode prog_1_method_7_code 79 = .ok (.if_icmp .ne 11, 3) := by decide +kernel
theorem dG_come_82 : decode prog_1_method_7_code 82 = .ok (.new 93, 3) := by decide +kernel
theorem dG_come_85 : decode prog_1_method_7_code 85 = .ok (.dup, 1) := by decide +kernel
theorem dG_come_86 : decode prog_1_method_7_code 86 = .ok (.invokespecial 95, 3) := by decide +kernel
theorem dG_come_89 : decode prog_1_method_7_code 89 = .ok (.athrow, 1) := by decide +kernel
theorem dG_come_90 : decode prog_1_method_7_code 90 = .ok (.aload_n 0, 1) := by decide +kernel
theorem dG_come_91 : decode prog_1_method_7_code 91 = .ok (.aload_n 2, 1) := by decide +kernel
theorem dG_come_92 : decode prog_1_method_7_code 92 = .ok (.aload_n 0, 1) := by decide +kernel
theorem dG_come_93 : decode prog_1_method_7_code 93 = .ok (.getfield 30, 3) := by decide +kernel
theorem dG_come_96 : decode prog_1_method_7_code 96 = .ok (.iload_n 3, 1) := by decide +kernel
theorem dG_come_97 : decode prog_1_method_7_code 97 = .ok (.aaload, 1) := by decide +kernel
theorem dG_come_98 : decode prog_1_method_7_code 98 = .ok (.invokevirtual 171, 3) := by decide +kernel
theorem dG_come_101 : decode prog_1_method_7_code 101 = .ok (.aload_n 2, 1) := by decide +kernel
theorem dG_come_102 : decode prog_1_method_7_code 102 = .ok (.getfield 161, 3) := by decide +kernel
theorem dG_come_105 : decode prog_1_method_7_code 105 = .ok (.ireturn, 1) := by decide +kernel
theorem dG_earliestWelcome_0 : decode prog_1_method_36_code 0 = .ok (.iconst (-1), 1) := by decide +kernel
theorem dG_earliestWelcome_1 : decode prog_1_method_36_code 1 = .ok (.istore_n 2, 1) := by decide +kernel
theorem dG_earliestWelcome_2 : decode prog_1_method_36_code 2 = .ok (.iconst 0, 1) := by decide +kernel
theorem dG_earliestWelcome_3 : decode prog_1_method_36_code 3 = .ok (.istore_n 3, 1) := by decide +kernel
theorem dG_earliestWelcome_4 : decode prog_1_method_36_code 4 = .ok (.iload_n 3, 1) := by decide +kernel
theorem dG_earliestWelcome_5 : decode prog_1_method_36_code 5 = .ok (.aload_n 0, 1) := by decide +kernel
theorem dG_earliestWelcome_6 : decode prog_1_method_36_code 6 = .ok (.getfield 90, 3) := by decide +kernel
theorem dG_earliestWelcome_9 : decode prog_1_method_36_code 9 = .ok (.if_icmp .ge 67, 3) := by decide +kernel
theorem dG_earliestWelcome_12 : decode prog_1_method_36_code 12 = .ok (.aload_n 0, 1) := by decide +kernel
theorem dG_earliestWelcome_13 : decode prog_1_method_36_code 13 = .ok (.getfield 30, 3) := by decide +kernel
theorem dG_earliestWelcome_16 : decode prog_1_method_36_code 16 = .ok (.iload_n 3, 1) := by decide +kernel
theorem dG_earliestWelcome_17 : decode prog_1_method_36_code 17 = .ok (.aaload, 1) := by decide +kernel
theorem dG_earliestWelcome_18 : decode prog_1_method_36_code 18 = .ok (.astore 4, 2) := by decide +kernel
theorem dG_earliestWelcome_20 : decode prog_1_method_36_code 20 = .ok (.aload 4, 2) := by decide +kernel
theorem dG_earliestWelcome_22 : decode prog_1_method_36_code 22 = .ok (.getfield 263, 3) := by decide +kernel
theorem dG_earliestWelcome_25 : decode prog_1_method_36_code 25 = .ok (.iload_n 1, 1) := by decide +kernel
theorem dG_earliestWelcome_26 : decode prog_1_method_36_code 26 = .ok (.if_icmp .ne 44, 3) := by decide +kernel
theorem dG_earliestWelcome_29 : decode prog_1_method_36_code 29 = .ok (.aload 4, 2) := by decide +kernel
theorem dG_earliestWelcome_31 : decode prog_1_method_36_code 31 = .ok (.getfield 314, 3) := by decide +kernel
theorem dG_earliestWelcome_34 : decode prog_1_method_36_code 34 = .ok (.ifCond .ne 36, 3) := by decide +kernel
theorem dG_earliestWelcome_37 : decode prog_1_method_36_code 37 = .ok (.aload 4, 2) := by decide +kernel
theorem dG_earliestWelcome_39 : decode prog_1_method_36_code 39 = .ok (.getfield 262, 3) := by decide +kernel
theorem dG_earliestWelcome_42 : decode prog_1_method_36_code 42 = .ok (.iconst (-1), 1) := by decide +kernel
theorem dG_earliestWelcome_43 : decode prog_1_method_36_code 43 = .ok (.if_icmp .eq 27, 3) := by decide +kernel
theorem dG_earliestWelcome_46 : decode prog_1_method_36_code 46 = .ok (.iload_n 2, 1) := by decide +kernel
theorem dG_earliestWelcome_47 : decode prog_1_method_36_code 47 = .ok (.iconst (-1), 1) := by decide +kernel
theorem dG_earliestWelcome_48 : decode prog_1_method_36_code 48 = .ok (.if_icmp .eq 20, 3) := by decide +kernel
theorem dG_earliestWelcome_51 : decode prog_1_method_36_code 51 = .ok (.aload 4, 2) := by decide +kernel
theorem dG_earliestWelcome_53 : decode prog_1_method_36_code 53 = .ok (.getfield 262, 3) := by decide +kernel
theorem dG_earliestWelcome_56 : decode prog_1_method_36_code 56 = .ok (.aload_n 0, 1) := by decide +kernel
theorem dG_earliestWelcome_57 : decode prog_1_method_36_code 57 = .ok (.getfield 30, 3) := by decide +kernel
theorem dG_earliestWelcome_60 : decode prog_1_method_36_code 60 = .ok (.iload_n 2, 1) := by decide +kernel
theorem dG_earliestWelcome_61 : decode prog_1_method_36_code 61 = .ok (.aaload, 1) := by decide +kernel
theorem dG_earliestWelcome_62 : decode prog_1_method_36_code 62 = .ok (.getfield 262, 3) := by decide +kernel
theorem dG_earliestWelcome_65 : decode prog_1_method_36_code 65 = .ok (.if_icmp .ge 5, 3) := by decide +kernel
theorem dG_earliestWelcome_68 : decode prog_1_method_36_code 68 = .ok (.iload_n 3, 1) := by decide +kernel
theorem dG_earliestWelcome_69 : decode prog_1_method_36_code 69 = .ok (.istore_n 2, 1) := by decide +kernel
theorem dG_earliestWelcome_70 : decode prog_1_method_36_code 70 = .ok (.iinc 3 1, 3) := by decide +kernel
theorem dG_earliestWelcome_73 : decode prog_1_method_36_code 73 = .ok (.goto (-69), 3) := by decide +kernel
theorem dG_earliestWelcome_76 : decode prog_1_method_36_code 76 = .ok (.iload_n 2, 1) := by decide +kernel
theorem dG_earliestWelcome_77 : decode prog_1_method_36_code 77 = .ok (.ireturn, 1) := by decide +kernel
theorem dG_joinBy_0 : decode prog_1_method_37_code 0 = .ok (.aload_n 0, 1) := by decide +kernel
theorem dG_joinBy_1 : decode prog_1_method_37_code 1 = .ok (.aload_n 2, 1) := by decide +kernel
theorem dG_joinBy_2 : decode prog_1_method_37_code 2 = .ok (.getfield 262, 3) := by decide +kernel
theorem dG_joinBy_5 : decode prog_1_method_37_code 5 = .ok (.invokevirtual 184, 3) := by decide +kernel
theorem dG_joinBy_8 : decode prog_1_method_37_code 8 = .ok (.ifCond .ne 4, 3) := by decide +kernel
theorem dG_joinBy_11 : decode prog_1_method_37_code 11 = .ok (.return_, 1) := by decide +kernel
theorem dG_joinBy_12 : decode prog_1_method_37_code 12 = .ok (.aload_n 0, 1) := by decide +kernel
theorem dG_joinBy_13 : decode prog_1_method_37_code 13 = .ok (.getfield 24, 3) := by decide +kernel
theorem dG_joinBy_16 : decode prog_1_method_37_code 16 = .ok (.aload_n 2, 1) := by decide +kernel
theorem dG_joinBy_17 : decode prog_1_method_37_code 17 = .ok (.getfield 262, 3) := by decide +kernel
theorem dG_joinBy_20 : decode prog_1_method_37_code 20 = .ok (.aaload, 1) := by decide +kernel
theorem dG_joinBy_21 : decode prog_1_method_37_code 21 = .ok (.astore_n 3, 1) := by decide +kernel
theorem dG_joinBy_22 : decode prog_1_method_37_code 22 = .ok (.aload_n 2, 1) := by decide +kernel
theorem dG_joinBy_23 : decode prog_1_method_37_code 23 = .ok (.iconst 1, 1) := by decide +kernel
theorem dG_joinBy_24 : decode prog_1_method_37_code 24 = .ok (.putfield 314, 3) := by decide +kernel
theorem dG_joinBy_27 : decode prog_1_method_37_code 27 = .ok (.aload_n 1, 1) := by decide +kernel
theorem dG_joinBy_28 : decode prog_1_method_37_code 28 = .ok (.aload_n 3, 1) := by decide +kernel
theorem dG_joinBy_29 : decode prog_1_method_37_code 29 = .ok (.aload_n 2, 1) := by decide +kernel
theorem dG_joinBy_30 : decode prog_1_method_37_code 30 = .ok (.getfield 278, 3) := by decide +kernel
theorem dG_joinBy_33 : decode prog_1_method_37_code 33 = .ok (.invokevirtual 79, 3) := by decide +kernel
theorem dG_joinBy_36 : decode prog_1_method_37_code 36 = .ok (.aload_n 1, 1) := by decide +kernel
theorem dG_joinBy_37 : decode prog_1_method_37_code 37 = .ok (.aload_n 3, 1) := by decide +kernel
theorem dG_joinBy_38 : decode prog_1_method_37_code 38 = .ok (.aload_n 3, 1) := by decide +kernel
theorem dG_joinBy_39 : decode prog_1_method_37_code 39 = .ok (.aload_n 2, 1) := by decide +kernel
theorem dG_joinBy_40 : decode prog_1_method_37_code 40 = .ok (.getfield 278, 3) := by decide +kernel
theorem dG_joinBy_43 : decode prog_1_method_37_code 43 = .ok (.invokevirtual 318, 3) := by decide +kernel
theorem dG_joinBy_46 : decode prog_1_method_37_code 46 = .ok (.invokevirtual 321, 3) := by decide +kernel
theorem dG_joinBy_49 : decode prog_1_method_37_code 49 = .ok (.return_, 1) := by decide +kernel
theorem dG_compromise_0 : decode prog_1_method_8_code 0 = .ok (.iload_n 1, 1) := by decide +kernel
theorem dG_compromise_1 : decode prog_1_method_8_code 1 = .ok (.invokestatic 83, 3) := by decide +kernel
theorem dG_compromise_4 : decode prog_1_method_8_code 4 = .ok (.ifCond .ne 11, 3) := by decide +kernel
theorem dG_compromise_7 : decode prog_1_method_8_code 7 = .ok (.new 87, 3) := by decide +kernel
theorem dG_compromise_10 : decode prog_1_method_8_code 10 = .ok (.dup, 1) := by decide +kernel
theorem dG_compromise_11 : decode prog_1_method_8_code 11 = .ok (.invokespecial 89, 3) := by decide +kernel
theorem dG_compromise_14 : decode prog_1_method_8_code 14 = .ok (.athrow, 1) := by decide +kernel
theorem dG_compromise_15 : decode prog_1_method_8_code 15 = .ok (.aload_n 0, 1) := by decide +kernel
theorem dG_compromise_16 : decode prog_1_method_8_code 16 = .ok (.iload_n 1, 1) := by decide +kernel
theorem dG_compromise_17 : decode prog_1_method_8_code 17 = .ok (.invokevirtual 175, 3) := by decide +kernel
theorem dG_compromise_20 : decode prog_1_method_8_code 20 = .ok (.istore_n 2, 1) := by decide +kernel
theorem dG_compromise_21 : decode prog_1_method_8_code 21 = .ok (.iconst 0, 1) := by decide +kernel
theorem dG_compromise_22 : decode prog_1_method_8_code 22 = .ok (.istore_n 3, 1) := by decide +kernel
theorem dG_compromise_23 : decode prog_1_method_8_code 23 = .ok (.iload_n 3, 1) := by decide +kernel
theorem dG_compromise_24 : decode prog_1_method_8_code 24 = .ok (.iload_n 2, 1) := by decide +kernel
theorem dG_compromise_25 : decode prog_1_method_8_code 25 = .ok (.if_icmp .ge 22, 3) := by decide +kernel
theorem dG_compromise_28 : decode prog_1_method_8_code 28 = .ok (.aload_n 0, 1) := by decide +kernel
theorem dG_compromise_29 : decode prog_1_method_8_code 29 = .ok (.getfield 12, 3) := by decide +kernel
theorem dG_compromise_32 : decode prog_1_method_8_code 32 = .ok (.aload_n 0, 1) := by decide +kernel
theorem dG_compromise_33 : decode prog_1_method_8_code 33 = .ok (.getfield 44, 3) := by decide +kernel
theorem dG_compromise_36 : decode prog_1_method_8_code 36 = .ok (.iload_n 3, 1) := by decide +kernel
theorem dG_compromise_37 : decode prog_1_method_8_code 37 = .ok (.iaload, 1) := by decide +kernel
theorem dG_compromise_38 : decode prog_1_method_8_code 38 = .ok (.invokevirtual 178, 3) := by decide +kernel
theorem dG_compromise_41 : decode prog_1_method_8_code 41 = .ok (.iinc 3 1, 3) := by decide +kernel
theorem dG_compromise_44 : decode prog_1_method_8_code 44 = .ok (.goto (-21), 3) := by decide +kernel
theorem dG_compromise_47 : decode prog_1_method_8_code 47 = .ok (.aload_n 0, 1) := by decide +kernel
theorem dG_compromise_48 : decode prog_1_method_8_code 48 = .ok (.getfield 12, 3) := by decide +kernel
theorem dG_compromise_51 : decode prog_1_method_8_code 51 = .ok (.iconst 0, 1) := by decide +kernel
theorem dG_compromise_52 : decode prog_1_method_8_code 52 = .ok (.invokevirtual 155, 3) := by decide +kernel
theorem dG_compromise_55 : decode prog_1_method_8_code 55 = .ok (.iload_n 2, 1) := by decide +kernel
theorem dG_compromise_56 : decode prog_1_method_8_code 56 = .ok (.ireturn, 1) := by decide +kernel
end
section
theorem dS_init_0 : decode prog_6_method_1_code 0 = .ok (.aload_n 0, 1) := by decide +kernel
theorem dS_init_1 : decode prog_6_method_1_code 1 = .ok (.invokespecial 3, 3) := by decide +kernel
theorem dS_init_4 : decode prog_6_method_1_code 4 = .ok (.aload_n 0, 1) := by decide +kernel
theorem dS_init_5 : decode prog_6_method_1_code 5 = .ok (.bipush 64, 2) := by decide +kernel
theorem dS_init_7 : decode prog_6_method_1_code 7 = .ok (.newarray .byte, 2) := by decide +kernel
theorem dS_init_9 : decode prog_6_method_1_code 9 = .ok (.putfield 11, 3) := by decide +kernel
theorem dS_init_12 : decode prog_6_method_1_code 12 = .ok (.aload_n 0, 1) := by decide +kernel
theorem dS_init_13 : decode prog_6_method_1_code 13 = .ok (.bipush 64, 2) := by decide +kernel
theorem dS_init_15 : decode prog_6_method_1_code 15 = .ok (.newarray .int, 2) := by decide +kernel
theorem dS_init_17 : decode prog_6_method_1_code 17 = .ok (.putfield 15, 3) := by decide +kernel
theorem dS_init_20 : decode prog_6_method_1_code 20 = .ok (.aload_n 0, 1) := by decide +kernel
theorem dS_init_21 : decode prog_6_method_1_code 21 = .ok (.bipush 64, 2) := by decide +kernel
theorem dS_init_23 : decode prog_6_method_1_code 23 = .ok (.newarray .int, 2) := by decide +kernel
theorem dS_init_25 : decode prog_6_method_1_code 25 = .ok (.putfield 19, 3) := by decide +kernel
theorem dS_init_28 : decode prog_6_method_1_code 28 = .ok (.aload_n 0, 1) := by decide +kernel
theorem dS_init_29 : decode prog_6_method_1_code 29 = .ok (.bipush 64, 2) := by decide +kernel
theorem dS_init_31 : decode prog_6_method_1_code 31 = .ok (.newarray .int, 2) := by decide +kernel
theorem dS_init_33 : decode prog_6_method_1_code 33 = .ok (.putfield 22, 3) := by decide +kernel
theorem dS_init_36 : decode prog_6_method_1_code 36 = .ok (.aload_n 0, 1) := by decide +kernel
theorem dS_init_37 : decode prog_6_method_1_code 37 = .ok (.getfield 11, 3) := by decide +kernel
theorem dS_init_40 : decode prog_6_method_1_code 40 = .ok (.iconst 0, 1) := by decide +kernel
theorem dS_init_41 : decode prog_6_method_1_code 41 = .ok (.iconst 1, 1) := by decide +kernel
theorem dS_init_42 : decode prog_6_method_1_code 42 = .ok (.bastore, 1) := by decide +kernel
theorem dS_init_43 : decode prog_6_method_1_code 43 = .ok (.aload_n 0, 1) := by decide +kernel
theorem dS_init_44 : decode prog_6_method_1_code 44 = .ok (.iconst 1, 1) := by decide +kernel
theorem dS_init_45 : decode prog_6_method_1_code 45 = .ok (.putfield 25, 3) := by decide +kernel
theorem dS_init_48 : decode prog_6_method_1_code 48 = .ok (.return_, 1) := by decide +kernel
theorem dS_fresh_0 : decode prog_6_method_2_code 0 = .ok (.aload_n 0, 1) := by decide +kernel
theorem dS_fresh_1 : decode prog_6_method_2_code 1 = .ok (.getfield 25, 3) := by decide +kernel
theorem dS_fresh_4 : decode prog_6_method_2_code 4 = .ok (.aload_n 0, 1) := by decide +kernel
theorem dS_fresh_5 : decode prog_6_method_2_code 5 = .ok (.getfield 11, 3) := by decide +kernel
theorem dS_fresh_8 : decode prog_6_method_2_code 8 = .ok (.arraylength, 1) := by decide +kernel
theorem dS_fresh_9 : decode prog_6_method_2_code 9 = .ok (.if_icmp .lt 31, 3) := by decide +kernel
theorem dS_fresh_12 : decode prog_6_method_2_code 12 = .ok (.aload_n 0, 1) := by decide +kernel
theorem dS_fresh_13 : decode prog_6_method_2_code 13 = .ok (.getfield 25, 3) := by decide +kernel
theorem dS_fresh_16 : decode prog_6_method_2_code 16 = .ok (.sipush 4096, 3) := by decide +kernel
theorem dS_fresh_19 : decode prog_6_method_2_code 19 = .ok (.if_icmp .ge 21, 3) := by decide +kernel
theorem dS_fresh_22 : decode prog_6_method_2_code 22 = .ok (.aload_n 0, 1) := by decide +kernel
theorem dS_fresh_23 : decode prog_6_method_2_code 23 = .ok (.aload_n 0, 1) := by decide +kernel
theorem dS_fresh_24 : decode prog_6_method_2_code 24 = .ok (.getfield 11, 3) := by decide +kernel
theorem dS_fresh_27 : decode prog_6_method_2_code 27 = .ok (.iconst 2, 1) := by decide +kernel
theorem dS_fresh_28 : decode prog_6_method_2_code 28 = .ok (.aload_n 0, 1) := by decide +kernel
theorem dS_fresh_29 : decode prog_6_method_2_code 29 = .ok (.getfield 11, 3) := by decide +kernel
theorem dS_fresh_32 : decode prog_6_method_2_code 32 = .ok (.arraylength, 1) := by decide +kernel
theorem dS_fresh_33 : decode prog_6_method_2_code 33 = .ok (.imul, 1) := by decide +kernel
theorem dS_fresh_34 : decode prog_6_method_2_code 34 = .ok (.invokestatic 29, 3) := by decide +kernel
theorem dS_fresh_37 : decode prog_6_method_2_code 37 = .ok (.putfield 11, 3) := by decide +kernel
theorem dS_fresh_40 : decode prog_6_method_2_code 40 = .ok (.aload_n 0, 1) := by decide +kernel
theorem dS_fresh_41 : decode prog_6_method_2_code 41 = .ok (.getfield 25, 3) := by decide +kernel
theorem dS_fresh_44 : decode prog_6_method_2_code 44 = .ok (.aload_n 0, 1) := by decide +kernel
theorem dS_fresh_45 : decode prog_6_method_2_code 45 = .ok (.getfield 11, 3) := by decide +kernel
theorem dS_fresh_48 : decode prog_6_method_2_code 48 = .ok (.arraylength, 1) := by decide +kernel
theorem dS_fresh_49 : decode prog_6_method_2_code 49 = .ok (.if_icmp .lt 5, 3) := by decide +kernel
theorem dS_fresh_52 : decode prog_6_method_2_code 52 = .ok (.iconst (-1), 1) := by decide +kernel
theorem dS_fresh_53 : decode prog_6_method_2_code 53 = .ok (.ireturn, 1) := by decide +kernel
theorem dS_fresh_54 : decode prog_6_method_2_code 54 = .ok (.aload_n 0, 1) := by decide +kernel
theorem dS_fresh_55 : decode prog_6_method_2_code 55 = .ok (.dup, 1) := by decide +kernel
theorem dS_fresh_56 : decode prog_6_method_2_code 56 = .ok (.getfield 25, 3) := by decide +kernel
theorem dS_fresh_59 : decode prog_6_method_2_code 59 = .ok (.iconst 1, 1) := by decide +kernel
theorem dS_fresh_60 : decode prog_6_method_2_code 60 = .ok (.iadd, 1) := by decide +kernel
theorem dS_fresh_61 : decode prog_6_method_2_code 61 = .ok (.putfield 25, 3) := by decide +kernel
theorem dS_fresh_64 : decode prog_6_method_2_code 64 = .ok (.aload_n 0, 1) := by decide +kernel
theorem dS_fresh_65 : decode prog_6_method_2_code 65 = .ok (.getfield 25, 3) := by decide +kernel
theorem dS_fresh_68 : decode prog_6_method_2_code 68 = .ok (.iconst 1, 1) := by decide +kernel
theorem dS_fresh_69 : decode prog_6_method_2_code 69 = .ok (.isub, 1) := by decide +kernel
theorem dS_fresh_70 : decode prog_6_method_2_code 70 = .ok (.ireturn, 1) := by decide +kernel
theorem dS_isOut_0 : decode prog_6_method_8_code 0 = .ok (.iload_n 1, 1) := by decide +kernel
theorem dS_isOut_1 : decode prog_6_method_8_code 1 = .ok (.ifCond .lt 24, 3) := by decide +kernel
theorem dS_isOut_4 : decode prog_6_method_8_code 4 = .ok (.iload_n 1, 1) := by decide +kernel
theorem dS_isOut_5 : decode prog_6_method_8_code 5 = .ok (.aload_n 0, 1) := by decide +kernel
theorem dS_isOut_6 : decode prog_6_method_8_code 6 = .ok (.getfield 25, 3) := by decide +kernel
theorem dS_isOut_9 : decode prog_6_method_8_code 9 = .ok (.if_icmp .ge 16, 3) := by decide +kernel
theorem dS_isOut_12 : decode prog_6_method_8_code 12 = .ok (.aload_n 0, 1) := by decide +kernel
theorem dS_isOut_13 : decode prog_6_method_8_code 13 = .ok (.getfield 11, 3) := by decide +kernel
theorem dS_isOut_16 : decode prog_6_method_8_code 16 = .ok (.iload_n 1, 1) := by decide +kernel
theorem dS_isOut_17 : decode prog_6_method_8_code 17 = .ok (.baload, 1) := by decide +kernel
theorem dS_isOut_18 : decode prog_6_method_8_code 18 = .ok (.ifCond .eq 7, 3) := by decide +kernel
theorem dS_isOut_21 : decode prog_6_method_8_code 21 = .ok (.iconst 1, 1) := by decide +kernel
theorem dS_isOut_22 : decode prog_6_method_8_code 22 = .ok (.goto 4, 3) := by decide +kernel
theorem dS_isOut_25 : decode prog_6_method_8_code 25 = .ok (.iconst 0, 1) := by decide +kernel
theorem dS_isOut_26 : decode prog_6_method_8_code 26 = .ok (.ireturn, 1) := by decide +kernel
theorem dS_ruleCount_0 : decode prog_6_method_6_code 0 = .ok (.aload_n 0, 1) := by decide +kernel
theorem dS_ruleCount_1 : decode prog_6_method_6_code 1 = .ok (.getfield 47, 3) := by decide +kernel
theorem dS_ruleCount_4 : decode prog_6_method_6_code 4 = .ok (.ireturn, 1) := by decide +kernel
theorem dS_derive_0 : decode prog_6_method_3_code 0 = .ok (.aload_n 0, 1) := by decide +kernel
theorem dS_derive_1 : decode prog_6_method_3_code 1 = .ok (.iload_n 1, 1) := by decide +kernel
theorem dS_derive_2 : decode prog_6_method_3_code 2 = .ok (.iconst (-1), 1) := by decide +kernel
theorem dS_derive_3 : decode prog_6_method_3_code 3 = .ok (.invokevirtual 35, 3) := by decide +kernel
theorem dS_derive_6 : decode prog_6_method_3_code 6 = .ok (.ireturn, 1) := by decide +kernel
theorem dS_deriveOfTwo_0 : decode prog_6_method_4_code 0 = .ok (.aload_n 0, 1) := by decide +kernel
theorem dS_deriveOfTwo_1 : decode prog_6_method_4_code 1 = .ok (.invokevirtual 39, 3) := by decide +kernel
theorem dS_deriveOfTwo_4 : decode prog_6_method_4_code 4 = .ok (.istore_n 3, 1) := by decide +kernel
theorem dS_deriveOfTwo_5 : decode prog_6_method_4_code 5 = .ok (.aload_n 0, 1) := by decide +kernel
theorem dS_deriveOfTwo_6 : decode prog_6_method_4_code 6 = .ok (.iload_n 1, 1) := by decide +kernel
theorem dS_deriveOfTwo_7 : decode prog_6_method_4_code 7 = .ok (.iload_n 2, 1) := by decide +kernel
theorem dS_deriveOfTwo_8 : decode prog_6_method_4_code 8 = .ok (.iload_n 3, 1) := by decide +kernel
theorem dS_deriveOfTwo_9 : decode prog_6_method_4_code 9 = .ok (.invokevirtual 43, 3) := by decide +kernel
theorem dS_deriveOfTwo_12 : decode prog_6_method_4_code 12 = .ok (.iload_n 3, 1) := by decide +kernel
theorem dS_deriveOfTwo_13 : decode prog_6_method_4_code 13 = .ok (.ireturn, 1) := by decide +kernel
theorem dS_tie_0 : decode prog_6_method_5_code 0 = .ok (.aload_n 0, 1) := by decide +kernel
theorem dS_tie_1 : decode prog_6_method_5_code 1 = .ok (.getfield 47, 3) := by decide +kernel
theorem dS_tie_4 : decode prog_6_method_5_code 4 = .ok (.aload_n 0, 1) := by decide +kernel
theorem dS_tie_5 : decode prog_6_method_5_code 5 = .ok (.getfield 22, 3) := by decide +kernel
theorem dS_tie_8 : decode prog_6_method_5_code 8 = .ok (.arraylength, 1) := by decide +kernel
theorem dS_tie_9 : decode prog_6_method_5_code 9 = .ok (.if_icmp .lt 67, 3) := by decide +kernel
theorem dS_tie_12 : decode prog_6_method_5_code 12 = .ok (.aload_n 0, 1) := by decide +kernel
theorem dS_tie_13 : decode prog_6_method_5_code 13 = .ok (.getfield 47, 3) := by decide +kernel
theorem dS_tie_16 : decode prog_6_method_5_code 16 = .ok (.sipush 4096, 3) := by decide +kernel
theorem dS_tie_19 : decode prog_6_method_5_code 19 = .ok (.if_icmp .ge 57, 3) := by decide +kernel
theorem dS_tie_22 : decode prog_6_method_5_code 22 = .ok (.aload_n 0, 1) := by decide +kernel
theorem dS_tie_23 : decode prog_6_method_5_code 23 = .ok (.aload_n 0, 1) := by decide +kernel
theorem dS_tie_24 : decode prog_6_method_5_code 24 = .ok (.getfield 15, 3) := by decide +kernel
theorem dS_tie_27 : decode prog_6_method_5_code 27 = .ok (.iconst 2, 1) := by decide +kernel
theorem dS_tie_28 : decode prog_6_method_5_code 28 = .ok (.aload_n 0, 1) := by decide +kernel
theorem dS_tie_29 : decode prog_6_method_5_code 29 = .ok (.getfield 15, 3) := by decide +kernel
theorem dS_tie_32 : decode prog_6_method_5_code 32 = .ok (.arraylength, 1) := by decide +kernel
theorem dS_tie_33 : decode prog_6_method_5_code 33 = .ok (.imul, 1) := by decide +kernel
theorem dS_tie_34 : decode prog_6_method_5_code 34 = .ok (.invokestatic 50, 3) := by decide +kernel
theorem dS_tie_37 : decode prog_6_method_5_code 37 = .ok (.putfield 15, 3) := by decide +kernel
theorem dS_tie_40 : decode prog_6_method_5_code 40 = .ok (.aload_n 0, 1) := by decide +kernel
theorem dS_tie_41 : decode prog_6_method_5_code 41 = .ok (.aload_n 0, 1) := by decide +kernel
theorem dS_tie_42 : decode prog_6_method_5_code 42 = .ok (.getfield 19, 3) := by decide +kernel
theorem dS_tie_45 : decode prog_6_method_5_code 45 = .ok (.iconst 2, 1) := by decide +kernel
theorem dS_tie_46 : decode prog_6_method_5_code 46 = .ok (.aload_n 0, 1) := by decide +kernel
theorem dS_tie_47 : decode prog_6_method_5_code 47 = .ok (.getfield 19, 3) := by decide +kernel
theorem dS_tie_50 : decode prog_6_method_5_code 50 = .ok (.arraylength, 1) := by decide +kernel
theorem dS_tie_51 : decode prog_6_method_5_code 51 = .ok (.imul, 1) := by decide +kernel
theorem dS_tie_52 : decode prog_6_method_5_code 52 = .ok (.invokestatic 50, 3) := by decide +kernel
theorem dS_tie_55 : decode prog_6_method_5_code 55 = .ok (.putfield 19, 3) := by decide +kernel
theorem dS_tie_58 : decode prog_6_method_5_code 58 = .ok (.aload_n 0, 1) := by decide +kernel
theorem dS_tie_59 : decode prog_6_method_5_code 59 = .ok (.aload_n 0, 1) := by decide +kernel
theorem dS_tie_60 : decode prog_6_method_5_code 60 = .ok (.getfield 22, 3) := by decide +kernel
theorem dS_tie_63 : decode prog_6_method_5_code 63 = .ok (.iconst 2, 1) := by decide +kernel
theorem dS_tie_64 : decode prog_6_method_5_code 64 = .ok (.aload_n 0, 1) := by decide +kernel
theorem dS_tie_65 : decode prog_6_method_5_code 65 = .ok (.getfield 22, 3) := by decide +kernel
theorem dS_tie_68 : decode prog_6_method_5_code 68 = .ok (.arraylength, 1) := by decide +kernel
theorem dS_tie_69 : decode prog_6_method_5_code 69 = .ok (.imul, 1) := by decide +kernel
theorem dS_tie_70 : decode prog_6_method_5_code 70 = .ok (.invokestatic 50, 3) := by decide +kernel
theorem dS_tie_73 : decode prog_6_method_5_code 73 = .ok (.putfield 22, 3) := by decide +kernel
theorem dS_tie_76 : decode prog_6_method_5_code 76 = .ok (.aload_n 0, 1) := by decide +kernel
theorem dS_tie_77 : decode prog_6_method_5_code 77 = .ok (.getfield 47, 3) := by decide +kernel
theorem dS_tie_80 : decode prog_6_method_5_code 80 = .ok (.aload_n 0, 1) := by decide +kernel
theorem dS_tie_81 : decode prog_6_method_5_code 81 = .ok (.getfield 22, 3) := by decide +kernel
theorem dS_tie_84 : decode prog_6_method_5_code 84 = .ok (.arraylength, 1) := by decide +kernel
theorem dS_tie_85 : decode prog_6_method_5_code 85 = .ok (.if_icmp .lt 4, 3) := by decide +kernel
theorem dS_tie_88 : decode prog_6_method_5_code 88 = .ok (.return_, 1) := by decide +kernel
theorem dS_tie_89 : decode prog_6_method_5_code 89 = .ok (.aload_n 0, 1) := by decide +kernel
theorem dS_tie_90 : decode prog_6_method_5_code 90 = .ok (.getfield 15, 3) := by decide +kernel
theorem dS_tie_93 : decode prog_6_method_5_code 93 = .ok (.aload_n 0, 1) := by decide +kernel
theorem dS_tie_94 : decode prog_6_method_5_code 94 = .ok (.getfield 47, 3) := by decide +kernel
theorem dS_tie_97 : decode prog_6_method_5_code 97 = .ok (.iload_n 1, 1) := by decide +kernel
theorem dS_tie_98 : decode prog_6_method_5_code 98 = .ok (.iastore, 1) := by decide +kernel
theorem dS_tie_99 : decode prog_6_method_5_code 99 = .ok (.aload_n 0, 1) := by decide +kernel
theorem dS_tie_100 : decode prog_6_method_5_code 100 = .ok (.getfield 19, 3) := by decide +kernel
theorem dS_tie_103 : decode prog_6_method_5_code 103 = .ok (.aload_n 0, 1) := by decide +kernel
theorem dS_tie_104 : decode prog_6_method_5_code 104 = .ok (.getfield 47, 3) := by decide +kernel
theorem dS_tie_107 : decode prog_6_method_5_code 107 = .ok (.iload_n 2, 1) := by decide +kernel
theorem dS_tie_108 : decode prog_6_method_5_code 108 = .ok (.iastore, 1) := by decide +kernel
theorem dS_tie_109 : decode prog_6_method_5_code 109 = .ok (.aload_n 0, 1) := by decide +kernel
theorem dS_tie_110 : decode prog_6_method_5_code 110 = .ok (.getfield 22, 3) := by decide +kernel
theorem dS_tie_113 : decode prog_6_method_5_code 113 = .ok (.aload_n 0, 1) := by decide +kernel
theorem dS_tie_114 : decode prog_6_method_5_code 114 = .ok (.getfield 47, 3) := by decide +kernel
theorem dS_tie_117 : decode prog_6_method_5_code 117 = .ok (.iload_n 3, 1) := by decide +kernel
theorem dS_tie_118 : decode prog_6_method_5_code 118 = .ok (.iastore, 1) := by decide +kernel
theorem dS_tie_119 : decode prog_6_method_5_code 119 = .ok (.aload_n 0, 1) := by decide +kernel
theorem dS_tie_120 : decode prog_6_method_5_code 120 = .ok (.dup, 1) := by decide +kernel
theorem dS_tie_121 : decode prog_6_method_5_code 121 = .ok (.getfield 47, 3) := by decide +kernel
theorem dS_tie_124 : decode prog_6_method_5_code 124 = .ok (.iconst 1, 1) := by decide +kernel
theorem dS_tie_125 : decode prog_6_method_5_code 125 = .ok (.iadd, 1) := by decide +kernel
theorem dS_tie_126 : decode prog_6_method_5_code 126 = .ok (.putfield 47, 3) := by decide +kernel
theorem dS_tie_129 : decode prog_6_method_5_code 129 = .ok (.return_, 1) := by decide +kernel
theorem dS_spread_0 : decode prog_6_method_9_code 0 = .ok (.iload_n 1, 1) := by decide +kernel
theorem dS_spread_1 : decode prog_6_method_9_code 1 = .ok (.iconst 0, 1) := by decide +kernel
theorem dS_spread_2 : decode prog_6_method_9_code 2 = .ok (.invokestatic 53, 3) := by decide +kernel
theorem dS_spread_5 : decode prog_6_method_9_code 5 = .ok (.istore_n 2, 1) := by decide +kernel
theorem dS_spread_6 : decode prog_6_method_9_code 6 = .ok (.iload_n 2, 1) := by decide +kernel
theorem dS_spread_7 : decode prog_6_method_9_code 7 = .ok (.aload_n 0, 1) := by decide +kernel
theorem dS_spread_8 : decode prog_6_method_9_code 8 = .ok (.getfield 47, 3) := by decide +kernel
theorem dS_spread_11 : decode prog_6_method_9_code 11 = .ok (.if_icmp .ge 55, 3) := by decide +kernel
theorem dS_spread_14 : decode prog_6_method_9_code 14 = .ok (.aload_n 0, 1) := by decide +kernel
theorem dS_spread_15 : decode prog_6_method_9_code 15 = .ok (.aload_n 0, 1) := by decide +kernel
theorem dS_spread_16 : decode prog_6_method_9_code 16 = .ok (.getfield 15, 3) := by decide +kernel
theorem dS_spread_19 : decode prog_6_method_9_code 19 = .ok (.iload_n 2, 1) := by decide +kernel
theorem dS_spread_20 : decode prog_6_method_9_code 20 = .ok (.iaload, 1) := by decide +kernel
theorem dS_spread_21 : decode prog_6_method_9_code 21 = .ok (.invokevirtual 58, 3) := by decide +kernel
theorem dS_spread_24 : decode prog_6_method_9_code 24 = .ok (.ifCond .eq 36, 3) := by decide +kernel
theorem dS_spread_27 : decode prog_6_method_9_code 27 = .ok (.aload_n 0, 1) := by decide +kernel
theorem dS_spread_28 : decode prog_6_method_9_code 28 = .ok (.getfield 19, 3) := by decide +kernel
theorem dS_spread_31 : decode prog_6_method_9_code 31 = .ok (.iload_n 2, 1) := by decide +kernel
theorem dS_spread_32 : decode prog_6_method_9_code 32 = .ok (.iaload, 1) := by decide +kernel
theorem dS_spread_33 : decode prog_6_method_9_code 33 = .ok (.iconst (-1), 1) := by decide +kernel
theorem dS_spread_34 : decode prog_6_method_9_code 34 = .ok (.if_icmp .eq 16, 3) := by decide +kernel
theorem dS_spread_37 : decode prog_6_method_9_code 37 = .ok (.aload_n 0, 1) := by decide +kernel
theorem dS_spread_38 : decode prog_6_method_9_code 38 = .ok (.aload_n 0, 1) := by decide +kernel
theorem dS_spread_39 : decode prog_6_method_9_code 39 = .ok (.getfield 19, 3) := by decide +kernel
theorem dS_spread_42 : decode prog_6_method_9_code 42 = .ok (.iload_n 2, 1) := by decide +kernel
theorem dS_spread_43 : decode prog_6_method_9_code 43 = .ok (.iaload, 1) := by decide +kernel
theorem dS_spread_44 : decode prog_6_method_9_code 44 = .ok (.invokevirtual 58, 3) := by decide +kernel
theorem dS_spread_47 : decode prog_6_method_9_code 47 = .ok (.ifCond .eq 13, 3) := by decide +kernel
theorem dS_spread_50 : decode prog_6_method_9_code 50 = .ok (.aload_n 0, 1) := by decide +kernel
theorem dS_spread_51 : decode prog_6_method_9_code 51 = .ok (.aload_n 0, 1) := by decide +kernel
theorem dS_spread_52 : decode prog_6_method_9_code 52 = .ok (.getfield 22, 3) := by decide +kernel
theorem dS_spread_55 : decode prog_6_method_9_code 55 = .ok (.iload_n 2, 1) := by decide +kernel
theorem dS_spread_56 : decode prog_6_method_9_code 56 = .ok (.iaload, 1) := by decide +kernel
theorem dS_spread_57 : decode prog_6_method_9_code 57 = .ok (.invokevirtual 62, 3) := by decide +kernel
theorem dS_spread_60 : decode prog_6_method_9_code 60 = .ok (.iinc 2 1, 3) := by decide +kernel
theorem dS_spread_63 : decode prog_6_method_9_code 63 = .ok (.goto (-57), 3) := by decide +kernel
theorem dS_spread_66 : decode prog_6_method_9_code 66 = .ok (.return_, 1) := by decide +kernel
theorem dS_learn_0 : decode prog_6_method_7_code 0 = .ok (.iload_n 1, 1) := by decide +kernel
theorem dS_learn_1 : decode prog_6_method_7_code 1 = .ok (.ifCond .lt 18, 3) := by decide +kernel
theorem dS_learn_4 : decode prog_6_method_7_code 4 = .ok (.iload_n 1, 1) := by decide +kernel
theorem dS_learn_5 : decode prog_6_method_7_code 5 = .ok (.aload_n 0, 1) := by decide +kernel
theorem dS_learn_6 : decode prog_6_method_7_code 6 = .ok (.getfield 25, 3) := by decide +kernel
theorem dS_learn_9 : decode prog_6_method_7_code 9 = .ok (.if_icmp .ge 10, 3) := by decide +kernel
theorem dS_learn_12 : decode prog_6_method_7_code 12 = .ok (.aload_n 0, 1) := by decide +kernel
theorem dS_learn_13 : decode prog_6_method_7_code 13 = .ok (.getfield 11, 3) := by decide +kernel
theorem dS_learn_16 : decode prog_6_method_7_code 16 = .ok (.iload_n 1, 1) := by decide +kernel
theorem dS_learn_17 : decode prog_6_method_7_code 17 = .ok (.iconst 1, 1) := by decide +kernel
theorem dS_learn_18 : decode prog_6_method_7_code 18 = .ok (.bastore, 1) := by decide +kernel
theorem dS_learn_19 : decode prog_6_method_7_code 19 = .ok (.return_, 1) := by decide +kernel
end
section
theorem dB_init_0 : decode prog_4_method_1_code 0 = .ok (.aload_n 0, 1) := by decide +kernel
theorem dB_init_1 : decode prog_4_method_1_code 1 = .ok (.invokespecial 3, 3) := by decide +kernel
theorem dB_init_4 : decode prog_4_method_1_code 4 = .ok (.aload_n 0, 1) := by decide +kernel
theorem dB_init_5 : decode prog_4_method_1_code 5 = .ok (.iconst (-1), 1) := by decide +kernel
theorem dB_init_6 : decode prog_4_method_1_code 6 = .ok (.putfield 9, 3) := by decide +kernel
theorem dB_init_9 : decode prog_4_method_1_code 9 = .ok (.aload_n 0, 1) := by decide +kernel
theorem dB_init_10 : decode prog_4_method_1_code 10 = .ok (.iconst (-1), 1) := by decide +kernel
theorem dB_init_11 : decode prog_4_method_1_code 11 = .ok (.putfield 15, 3) := by decide +kernel
theorem dB_init_14 : decode prog_4_method_1_code 14 = .ok (.aload_n 0, 1) := by decide +kernel
theorem dB_init_15 : decode prog_4_method_1_code 15 = .ok (.iconst (-1), 1) := by decide +kernel
theorem dB_init_16 : decode prog_4_method_1_code 16 = .ok (.putfield 18, 3) := by decide +kernel
theorem dB_init_19 : decode prog_4_method_1_code 19 = .ok (.aload_n 0, 1) := by decide +kernel
theorem dB_init_20 : decode prog_4_method_1_code 20 = .ok (.iconst 5, 1) := by decide +kernel
theorem dB_init_21 : decode prog_4_method_1_code 21 = .ok (.newarray .int, 2) := by decide +kernel
theorem dB_init_23 : decode prog_4_method_1_code 23 = .ok (.putfield 21, 3) := by decide +kernel
theorem dB_init_26 : decode prog_4_method_1_code 26 = .ok (.aload_n 0, 1) := by decide +kernel
theorem dB_init_27 : decode prog_4_method_1_code 27 = .ok (.bipush 20, 2) := by decide +kernel
theorem dB_init_29 : decode prog_4_method_1_code 29 = .ok (.newarray .int, 2) := by decide +kernel
theorem dB_init_31 : decode prog_4_method_1_code 31 = .ok (.putfield 25, 3) := by decide +kernel
theorem dB_init_34 : decode prog_4_method_1_code 34 = .ok (.aload_n 0, 1) := by decide +kernel
theorem dB_init_35 : decode prog_4_method_1_code 35 = .ok (.getfield 21, 3) := by decide +kernel
theorem dB_init_38 : decode prog_4_method_1_code 38 = .ok (.iconst (-1), 1) := by decide +kernel
theorem dB_init_39 : decode prog_4_method_1_code 39 = .ok (.invokestatic 28, 3) := by decide +kernel
theorem dB_init_42 : decode prog_4_method_1_code 42 = .ok (.return_, 1) := by decide +kernel
theorem dB_enter_0 : decode prog_4_method_3_code 0 = .ok (.aload_n 0, 1) := by decide +kernel
theorem dB_enter_1 : decode prog_4_method_3_code 1 = .ok (.invokevirtual 37, 3) := by decide +kernel
theorem dB_enter_4 : decode prog_4_method_3_code 4 = .ok (.aload_n 0, 1) := by decide +kernel
theorem dB_enter_5 : decode prog_4_method_3_code 5 = .ok (.aload_n 1, 1) := by decide +kernel
theorem dB_enter_6 : decode prog_4_method_3_code 6 = .ok (.getfield 40, 3) := by decide +kernel
theorem dB_enter_9 : decode prog_4_method_3_code 9 = .ok (.putfield 9, 3) := by decide +kernel
theorem dB_enter_12 : decode prog_4_method_3_code 12 = .ok (.aload_n 0, 1) := by decide +kernel
theorem dB_enter_13 : decode prog_4_method_3_code 13 = .ok (.iload_n 2, 1) := by decide +kernel
theorem dB_enter_14 : decode prog_4_method_3_code 14 = .ok (.putfield 15, 3) := by decide +kernel
theorem dB_enter_17 : decode prog_4_method_3_code 17 = .ok (.aload_n 0, 1) := by decide +kernel
theorem dB_enter_18 : decode prog_4_method_3_code 18 = .ok (.aload_n 1, 1) := by decide +kernel
theorem dB_enter_19 : decode prog_4_method_3_code 19 = .ok (.getfield 45, 3) := by decide +kernel
theorem dB_enter_22 : decode prog_4_method_3_code 22 = .ok (.putfield 18, 3) := by decide +kernel
theorem dB_enter_25 : decode prog_4_method_3_code 25 = .ok (.aload_n 0, 1) := by decide +kernel
theorem dB_enter_26 : decode prog_4_method_3_code 26 = .ok (.getfield 21, 3) := by decide +kernel
theorem dB_enter_29 : decode prog_4_method_3_code 29 = .ok (.iconst 0, 1) := by decide +kernel
theorem dB_enter_30 : decode prog_4_method_3_code 30 = .ok (.aload_n 1, 1) := by decide +kernel
theorem dB_enter_31 : decode prog_4_method_3_code 31 = .ok (.getfield 46, 3) := by decide +kernel
theorem dB_enter_34 : decode prog_4_method_3_code 34 = .ok (.iload_n 2, 1) := by decide +kernel
theorem dB_enter_35 : decode prog_4_method_3_code 35 = .ok (.invokestatic 50, 3) := by decide +kernel
theorem dB_enter_38 : decode prog_4_method_3_code 38 = .ok (.invokevirtual 54, 3) := by decide +kernel
theorem dB_enter_41 : decode prog_4_method_3_code 41 = .ok (.iastore, 1) := by decide +kernel
theorem dB_enter_42 : decode prog_4_method_3_code 42 = .ok (.return_, 1) := by decide +kernel
theorem dB_leave_0 : decode prog_4_method_4_code 0 = .ok (.aload_n 0, 1) := by decide +kernel
theorem dB_leave_1 : decode prog_4_method_4_code 1 = .ok (.iconst (-1), 1) := by decide +kernel
theorem dB_leave_2 : decode prog_4_method_4_code 2 = .ok (.putfield 9, 3) := by decide +kernel
theorem dB_leave_5 : decode prog_4_method_4_code 5 = .ok (.aload_n 0, 1) := by decide +kernel
theorem dB_leave_6 : decode prog_4_method_4_code 6 = .ok (.iconst (-1), 1) := by decide +kernel
theorem dB_leave_7 : decode prog_4_method_4_code 7 = .ok (.putfield 15, 3) := by decide +kernel
theorem dB_leave_10 : decode prog_4_method_4_code 10 = .ok (.aload_n 0, 1) := by decide +kernel
theorem dB_leave_11 : decode prog_4_method_4_code 11 = .ok (.iconst (-1), 1) := by decide +kernel
theorem dB_leave_12 : decode prog_4_method_4_code 12 = .ok (.putfield 18, 3) := by decide +kernel
theorem dB_leave_15 : decode prog_4_method_4_code 15 = .ok (.aload_n 0, 1) := by decide +kernel
theorem dB_leave_16 : decode prog_4_method_4_code 16 = .ok (.iconst 0, 1) := by decide +kernel
theorem dB_leave_17 : decode prog_4_method_4_code 17 = .ok (.putfield 34, 3) := by decide +kernel
theorem dB_leave_20 : decode prog_4_method_4_code 20 = .ok (.aload_n 0, 1) := by decide +kernel
theorem dB_leave_21 : decode prog_4_method_4_code 21 = .ok (.getfield 21, 3) := by decide +kernel
theorem dB_leave_24 : decode prog_4_method_4_code 24 = .ok (.iconst (-1), 1) := by decide +kernel
theorem dB_leave_25 : decode prog_4_method_4_code 25 = .ok (.invokestatic 28, 3) := by decide +kernel
theorem dB_leave_28 : decode prog_4_method_4_code 28 = .ok (.return_, 1) := by decide +kernel
theorem dB_gatherInto_0 : decode prog_4_method_10_code 0 = .ok (.iconst 0, 1) := by decide +kernel
theorem dB_gatherInto_1 : decode prog_4_method_10_code 1 = .ok (.istore_n 2, 1) := by decide +kernel
theorem dB_gatherInto_2 : decode prog_4_method_10_code 2 = .ok (.aload_n 0, 1) := by decide +kernel
theorem dB_gatherInto_3 : decode prog_4_method_10_code 3 = .ok (.getfield 18, 3) := by decide +kernel
theorem dB_gatherInto_6 : decode prog_4_method_10_code 6 = .ok (.iconst (-1), 1) := by decide +kernel
theorem dB_gatherInto_7 : decode prog_4_method_10_code 7 = .ok (.if_icmp .eq 13, 3) := by decide +kernel
theorem dB_gatherInto_10 : decode prog_4_method_10_code 10 = .ok (.aload_n 1, 1) := by decide +kernel
theorem dB_gatherInto_11 : decode prog_4_method_10_code 11 = .ok (.iload_n 2, 1) := by decide +kernel
theorem dB_gatherInto_12 : decode prog_4_method_10_code 12 = .ok (.aload_n 0, 1) := by decide +kernel
theorem dB_gatherInto_13 : decode prog_4_method_10_code 13 = .ok (.getfield 18, 3) := by decide +kernel
theorem dB_gatherInto_16 : decode prog_4_method_10_code 16 = .ok (.iastore, 1) := by decide +kernel
theorem dB_gatherInto_17 : decode prog_4_method_10_code 17 = .ok (.iinc 2 1, 3) := by decide +kernel
theorem dB_gatherInto_20 : decode prog_4_method_10_code 20 = .ok (.iconst 0, 1) := by decide +kernel
theorem dB_gatherInto_21 : decode prog_4_method_10_code 21 = .ok (.istore_n 3, 1) := by decide +kernel
theorem dB_gatherInto_22 : decode prog_4_method_10_code 22 = .ok (.iload_n 3, 1) := by decide +kernel
theorem dB_gatherInto_23 : decode prog_4_method_10_code 23 = .ok (.iconst 4, 1) := by decide +kernel
theorem dB_gatherInto_24 : decode prog_4_method_10_code 24 = .ok (.if_icmp .gt 31, 3) := by decide +kernel
theorem dB_gatherInto_27 : decode prog_4_method_10_code 27 = .ok (.aload_n 0, 1) := by decide +kernel
theorem dB_gatherInto_28 : decode prog_4_method_10_code 28 = .ok (.getfield 21, 3) := by decide +kernel
theorem dB_gatherInto_31 : decode prog_4_method_10_code 31 = .ok (.iload_n 3, 1) := by decide +kernel
theorem dB_gatherInto_32 : decode prog_4_method_10_code 32 = .ok (.iaload, 1) := by decide +kernel
theorem dB_gatherInto_33 : decode prog_4_method_10_code 33 = .ok (.iconst (-1), 1) := by decide +kernel
theorem dB_gatherInto_34 : decode prog_4_method_10_code 34 = .ok (.if_icmp .eq 15, 3) := by decide +kernel
theorem dB_gatherInto_37 : decode prog_4_method_10_code 37 = .ok (.aload_n 1, 1) := by decide +kernel
theorem dB_gatherInto_38 : decode prog_4_method_10_code 38 = .ok (.iload_n 2, 1) := by decide +kernel
theorem dB_gatherInto_39 : decode prog_4_method_10_code 39 = .ok (.aload_n 0, 1) := by decide +kernel
theorem dB_gatherInto_40 : decode prog_4_method_10_code 40 = .ok (.getfield 21, 3) := by decide +kernel
theorem dB_gatherInto_43 : decode prog_4_method_10_code 43 = .ok (.iload_n 3, 1) := by decide +kernel
theorem dB_gatherInto_44 : decode prog_4_method_10_code 44 = .ok (.iaload, 1) := by decide +kernel
theorem dB_gatherInto_45 : decode prog_4_method_10_code 45 = .ok (.iastore, 1) := by decide +kernel
theorem dB_gatherInto_46 : decode prog_4_method_10_code 46 = .ok (.iinc 2 1, 3) := by decide +kernel
theorem dB_gatherInto_49 : decode prog_4_method_10_code 49 = .ok (.iinc 3 1, 3) := by decide +kernel
theorem dB_gatherInto_52 : decode prog_4_method_10_code 52 = .ok (.goto (-30), 3) := by decide +kernel
theorem dB_gatherInto_55 : decode prog_4_method_10_code 55 = .ok (.iconst 0, 1) := by decide +kernel
theorem dB_gatherInto_56 : decode prog_4_method_10_code 56 = .ok (.istore_n 3, 1) := by decide +kernel
theorem dB_gatherInto_57 : decode prog_4_method_10_code 57 = .ok (.iload_n 3, 1) := by decide +kernel
theorem dB_gatherInto_58 : decode prog_4_method_10_code 58 = .ok (.aload_n 0, 1) := by decide +kernel
theorem dB_gatherInto_59 : decode prog_4_method_10_code 59 = .ok (.getfield 34, 3) := by decide +kernel
theorem dB_gatherInto_62 : decode prog_4_method_10_code 62 = .ok (.if_icmp .ge 21, 3) := by decide +kernel
theorem dB_gatherInto_65 : decode prog_4_method_10_code 65 = .ok (.aload_n 1, 1) := by decide +kernel
theorem dB_gatherInto_66 : decode prog_4_method_10_code 66 = .ok (.iload_n 2, 1) := by decide +kernel
theorem dB_gatherInto_67 : decode prog_4_method_10_code 67 = .ok (.aload_n 0, 1) := by decide +kernel
theorem dB_gatherInto_68 : decode prog_4_method_10_code 68 = .ok (.getfield 25, 3) := by decide +kernel
theorem dB_gatherInto_71 : decode prog_4_method_10_code 71 = .ok (.iload_n 3, 1) := by decide +kernel
theorem dB_gatherInto_72 : decode prog_4_method_10_code 72 = .ok (.iaload, 1) := by decide +kernel
theorem dB_gatherInto_73 : decode prog_4_method_10_code 73 = .ok (.iastore, 1) := by decide +kernel
theorem dB_gatherInto_74 : decode prog_4_method_10_code 74 = .ok (.iinc 2 1, 3) := by decide +kernel
theorem dB_gatherInto_77 : decode prog_4_method_10_code 77 = .ok (.iinc 3 1, 3) := by decide +kernel
theorem dB_gatherInto_80 : decode prog_4_method_10_code 80 = .ok (.goto (-23), 3) := by decide +kernel
theorem dB_gatherInto_83 : decode prog_4_method_10_code 83 = .ok (.iload_n 2, 1) := by decide +kernel
theorem dB_gatherInto_84 : decode prog_4_method_10_code 84 = .ok (.ireturn, 1) := by decide +kernel
theorem dB_keepUpdate_0 : decode prog_4_method_2_code 0 = .ok (.aload_n 0, 1) := by decide +kernel
theorem dB_keepUpdate_1 : decode prog_4_method_2_code 1 = .ok (.getfield 34, 3) := by decide +kernel
theorem dB_keepUpdate_4 : decode prog_4_method_2_code 4 = .ok (.bipush 20, 2) := by decide +kernel
theorem dB_keepUpdate_6 : decode prog_4_method_2_code 6 = .ok (.if_icmp .ge 23, 3) := by decide +kernel
theorem dB_keepUpdate_9 : decode prog_4_method_2_code 9 = .ok (.aload_n 0, 1) := by decide +kernel
theorem dB_keepUpdate_10 : decode prog_4_method_2_code 10 = .ok (.getfield 25, 3) := by decide +kernel
theorem dB_keepUpdate_13 : decode prog_4_method_2_code 13 = .ok (.aload_n 0, 1) := by decide +kernel
theorem dB_keepUpdate_14 : decode prog_4_method_2_code 14 = .ok (.getfield 34, 3) := by decide +kernel
theorem dB_keepUpdate_17 : decode prog_4_method_2_code 17 = .ok (.iload_n 1, 1) := by decide +kernel
theorem dB_keepUpdate_18 : decode prog_4_method_2_code 18 = .ok (.iastore, 1) := by decide +kernel
theorem dB_keepUpdate_19 : decode prog_4_method_2_code 19 = .ok (.aload_n 0, 1) := by decide +kernel
theorem dB_keepUpdate_20 : decode prog_4_method_2_code 20 = .ok (.dup, 1) := by decide +kernel
theorem dB_keepUpdate_21 : decode prog_4_method_2_code 21 = .ok (.getfield 34, 3) := by decide +kernel
theorem dB_keepUpdate_24 : decode prog_4_method_2_code 24 = .ok (.iconst 1, 1) := by decide +kernel
theorem dB_keepUpdate_25 : decode prog_4_method_2_code 25 = .ok (.iadd, 1) := by decide +kernel
theorem dB_keepUpdate_26 : decode prog_4_method_2_code 26 = .ok (.putfield 34, 3) := by decide +kernel
theorem dB_keepUpdate_29 : decode prog_4_method_2_code 29 = .ok (.return_, 1) := by decide +kernel
theorem dB_moveByCommit_0 : decode prog_4_method_5_code 0 = .ok (.aload_n 0, 1) := by decide +kernel
theorem dB_moveByCommit_1 : decode prog_4_method_5_code 1 = .ok (.aload_n 1, 1) := by decide +kernel
theorem dB_moveByCommit_2 : decode prog_4_method_5_code 2 = .ok (.getfield 40, 3) := by decide +kernel
theorem dB_moveByCommit_5 : decode prog_4_method_5_code 5 = .ok (.putfield 9, 3) := by decide +kernel
theorem dB_moveByCommit_8 : decode prog_4_method_5_code 8 = .ok (.aload_n 0, 1) := by decide +kernel
theorem dB_moveByCommit_9 : decode prog_4_method_5_code 9 = .ok (.aload_n 0, 1) := by decide +kernel
theorem dB_moveByCommit_10 : decode prog_4_method_5_code 10 = .ok (.getfield 18, 3) := by decide +kernel
theorem dB_moveByCommit_13 : decode prog_4_method_5_code 13 = .ok (.iconst (-1), 1) := by decide +kernel
theorem dB_moveByCommit_14 : decode prog_4_method_5_code 14 = .ok (.if_icmp .ne 7, 3) := by decide +kernel
theorem dB_moveByCommit_17 : decode prog_4_method_5_code 17 = .ok (.iconst (-1), 1) := by decide +kernel
theorem dB_moveByCommit_18 : decode prog_4_method_5_code 18 = .ok (.goto 7, 3) := by decide +kernel
theorem dB_moveByCommit_21 : decode prog_4_method_5_code 21 = .ok (.aload_n 1, 1) := by decide +kernel
theorem dB_moveByCommit_22 : decode prog_4_method_5_code 22 = .ok (.getfield 45, 3) := by decide +kernel
theorem dB_moveByCommit_25 : decode prog_4_method_5_code 25 = .ok (.putfield 18, 3) := by decide +kernel
theorem dB_moveByCommit_28 : decode prog_4_method_5_code 28 = .ok (.aload_n 0, 1) := by decide +kernel
theorem dB_moveByCommit_29 : decode prog_4_method_5_code 29 = .ok (.iconst 0, 1) := by decide +kernel
theorem dB_moveByCommit_30 : decode prog_4_method_5_code 30 = .ok (.putfield 34, 3) := by decide +kernel
theorem dB_moveByCommit_33 : decode prog_4_method_5_code 33 = .ok (.aload_n 0, 1) := by decide +kernel
theorem dB_moveByCommit_34 : decode prog_4_method_5_code 34 = .ok (.aload_n 1, 1) := by decide +kernel
theorem dB_moveByCommit_35 : decode prog_4_method_5_code 35 = .ok (.getfield 46, 3) := by decide +kernel
theorem dB_moveByCommit_38 : decode prog_4_method_5_code 38 = .ok (.invokevirtual 59, 3) := by decide +kernel
theorem dB_moveByCommit_41 : decode prog_4_method_5_code 41 = .ok (.aload_n 0, 1) := by decide +kernel
theorem dB_moveByCommit_42 : decode prog_4_method_5_code 42 = .ok (.getfield 21, 3) := by decide +kernel
theorem dB_moveByCommit_45 : decode prog_4_method_5_code 45 = .ok (.iconst 0, 1) := by decide +kernel
theorem dB_moveByCommit_46 : decode prog_4_method_5_code 46 = .ok (.aload_n 1, 1) := by decide +kernel
theorem dB_moveByCommit_47 : decode prog_4_method_5_code 47 = .ok (.getfield 46, 3) := by decide +kernel
theorem dB_moveByCommit_50 : decode prog_4_method_5_code 50 = .ok (.aload_n 0, 1) := by decide +kernel
theorem dB_moveByCommit_51 : decode prog_4_method_5_code 51 = .ok (.getfield 15, 3) := by decide +kernel
theorem dB_moveByCommit_54 : decode prog_4_method_5_code 54 = .ok (.invokestatic 50, 3) := by decide +kernel
theorem dB_moveByCommit_57 : decode prog_4_method_5_code 57 = .ok (.invokevirtual 54, 3) := by decide +kernel
theorem dB_moveByCommit_60 : decode prog_4_method_5_code 60 = .ok (.iastore, 1) := by decide +kernel
theorem dB_moveByCommit_61 : decode prog_4_method_5_code 61 = .ok (.aload_n 0, 1) := by decide +kernel
theorem dB_moveByCommit_62 : decode prog_4_method_5_code 62 = .ok (.aload_n 1, 1) := by decide +kernel
theorem dB_moveByCommit_63 : decode prog_4_method_5_code 63 = .ok (.aload_n 1, 1) := by decide +kernel
theorem dB_moveByCommit_64 : decode prog_4_method_5_code 64 = .ok (.aload_n 0, 1) := by decide +kernel
theorem dB_moveByCommit_65 : decode prog_4_method_5_code 65 = .ok (.getfield 15, 3) := by decide +kernel
theorem dB_moveByCommit_68 : decode prog_4_method_5_code 68 = .ok (.invokevirtual 63, 3) := by decide +kernel
theorem dB_moveByCommit_71 : decode prog_4_method_5_code 71 = .ok (.invokevirtual 66, 3) := by decide +kernel
theorem dB_moveByCommit_74 : decode prog_4_method_5_code 74 = .ok (.return_, 1) := by decide +kernel
theorem dB_dropOldKeys_0 : decode prog_4_method_8_code 0 = .ok (.iconst 0, 1) := by decide +kernel
theorem dB_dropOldKeys_1 : decode prog_4_method_8_code 1 = .ok (.istore_n 2, 1) := by decide +kernel
theorem dB_dropOldKeys_2 : decode prog_4_method_8_code 2 = .ok (.iload_n 2, 1) := by decide +kernel
theorem dB_dropOldKeys_3 : decode prog_4_method_8_code 3 = .ok (.iconst 4, 1) := by decide +kernel
theorem dB_dropOldKeys_4 : decode prog_4_method_8_code 4 = .ok (.if_icmp .gt 37, 3) := by decide +kernel
theorem dB_dropOldKeys_7 : decode prog_4_method_8_code 7 = .ok (.aload_n 0, 1) := by decide +kernel
theorem dB_dropOldKeys_8 : decode prog_4_method_8_code 8 = .ok (.getfield 21, 3) := by decide +kernel
theorem dB_dropOldKeys_11 : decode prog_4_method_8_code 11 = .ok (.iload_n 2, 1) := by decide +kernel
theorem dB_dropOldKeys_12 : decode prog_4_method_8_code 12 = .ok (.iaload, 1) := by decide +kernel
theorem dB_dropOldKeys_13 : decode prog_4_method_8_code 13 = .ok (.aload_n 1, 1) := by decide +kernel
theorem dB_dropOldKeys_14 : decode prog_4_method_8_code 14 = .ok (.aload_n 0, 1) := by decide +kernel
theorem dB_dropOldKeys_15 : decode prog_4_method_8_code 15 = .ok (.getfield 15, 3) := by decide +kernel
theorem dB_dropOldKeys_18 : decode prog_4_method_8_code 18 = .ok (.iload_n 2, 1) := by decide +kernel
theorem dB_dropOldKeys_19 : decode prog_4_method_8_code 19 = .ok (.invokestatic 86, 3) := by decide +kernel
theorem dB_dropOldKeys_22 : decode prog_4_method_8_code 22 = .ok (.invokevirtual 54, 3) := by decide +kernel
theorem dB_dropOldKeys_25 : decode prog_4_method_8_code 25 = .ok (.if_icmp .eq 10, 3) := by decide +kernel
theorem dB_dropOldKeys_28 : decode prog_4_method_8_code 28 = .ok (.aload_n 0, 1) := by decide +kernel
theorem dB_dropOldKeys_29 : decode prog_4_method_8_code 29 = .ok (.getfield 21, 3) := by decide +kernel
theorem dB_dropOldKeys_32 : decode prog_4_method_8_code 32 = .ok (.iload_n 2, 1) := by decide +kernel
theorem dB_dropOldKeys_33 : decode prog_4_method_8_code 33 = .ok (.iconst (-1), 1) := by decide +kernel
theorem dB_dropOldKeys_34 : decode prog_4_method_8_code 34 = .ok (.iastore, 1) := by decide +kernel
theorem dB_dropOldKeys_35 : decode prog_4_method_8_code 35 = .ok (.iinc 2 1, 3) := by decide +kernel
theorem dB_dropOldKeys_38 : decode prog_4_method_8_code 38 = .ok (.goto (-36), 3) := by decide +kernel
theorem dB_dropOldKeys_41 : decode prog_4_method_8_code 41 = .ok (.return_, 1) := by decide +kernel
theorem dB_learnPath_0 : decode prog_4_method_9_code 0 = .ok (.iload_n 2, 1) := by decide +kernel
theorem dB_learnPath_1 : decode prog_4_method_9_code 1 = .ok (.iconst (-1), 1) := by decide +kernel
theorem dB_learnPath_2 : decode prog_4_method_9_code 2 = .ok (.if_icmp .ne 4, 3) := by decide +kernel
theorem dB_learnPath_5 : decode prog_4_method_9_code 5 = .ok (.return_, 1) := by decide +kernel
theorem dB_learnPath_6 : decode prog_4_method_9_code 6 = .ok (.iload_n 2, 1) := by decide +kernel
theorem dB_learnPath_7 : decode prog_4_method_9_code 7 = .ok (.iconst 1, 1) := by decide +kernel
theorem dB_learnPath_8 : decode prog_4_method_9_code 8 = .ok (.invokestatic 99, 3) := by decide +kernel
theorem dB_learnPath_11 : decode prog_4_method_9_code 11 = .ok (.istore_n 3, 1) := by decide +kernel
theorem dB_learnPath_12 : decode prog_4_method_9_code 12 = .ok (.iload_n 3, 1) := by decide +kernel
theorem dB_learnPath_13 : decode prog_4_method_9_code 13 = .ok (.iconst 4, 1) := by decide +kernel
theorem dB_learnPath_14 : decode prog_4_method_9_code 14 = .ok (.if_icmp .gt 47, 3) := by decide +kernel
theorem dB_learnPath_17 : decode prog_4_method_9_code 17 = .ok (.aload_n 0, 1) := by decide +kernel
theorem dB_learnPath_18 : decode prog_4_method_9_code 18 = .ok (.getfield 15, 3) := by decide +kernel
theorem dB_learnPath_21 : decode prog_4_method_9_code 21 = .ok (.iload_n 3, 1) := by decide +kernel
theorem dB_learnPath_22 : decode prog_4_method_9_code 22 = .ok (.invokestatic 86, 3) := by decide +kernel
theorem dB_learnPath_25 : decode prog_4_method_9_code 25 = .ok (.istore 4, 2) := by decide +kernel
theorem dB_learnPath_27 : decode prog_4_method_9_code 27 = .ok (.aload_n 1, 1) := by decide +kernel
theorem dB_learnPath_28 : decode prog_4_method_9_code 28 = .ok (.getfield 104, 3) := by decide +kernel
theorem dB_learnPath_31 : decode prog_4_method_9_code 31 = .ok (.iload 4, 2) := by decide +kernel
theorem dB_learnPath_33 : decode prog_4_method_9_code 33 = .ok (.invokestatic 73, 3) := by decide +kernel
theorem dB_learnPath_36 : decode prog_4_method_9_code 36 = .ok (.iand, 1) := by decide +kernel
theorem dB_learnPath_37 : decode prog_4_method_9_code 37 = .ok (.ifCond .eq 18, 3) := by decide +kernel
theorem dB_learnPath_40 : decode prog_4_method_9_code 40 = .ok (.aload_n 0, 1) := by decide +kernel
theorem dB_learnPath_41 : decode prog_4_method_9_code 41 = .ok (.getfield 21, 3) := by decide +kernel
theorem dB_learnPath_44 : decode prog_4_method_9_code 44 = .ok (.iload_n 3, 1) := by decide +kernel
theorem dB_learnPath_45 : decode prog_4_method_9_code 45 = .ok (.aload_n 1, 1) := by decide +kernel
theorem dB_learnPath_46 : decode prog_4_method_9_code 46 = .ok (.getfield 46, 3) := by decide +kernel
theorem dB_learnPath_49 : decode prog_4_method_9_code 49 = .ok (.iload 4, 2) := by decide +kernel
theorem dB_learnPath_51 : decode prog_4_method_9_code 51 = .ok (.invokevirtual 54, 3) := by decide +kernel
theorem dB_learnPath_54 : decode prog_4_method_9_code 54 = .ok (.iastore, 1) := by decide +kernel
theorem dB_learnPath_55 : decode prog_4_method_9_code 55 = .ok (.iinc 3 1, 3) := by decide +kernel
theorem dB_learnPath_58 : decode prog_4_method_9_code 58 = .ok (.goto (-46), 3) := by decide +kernel
theorem dB_learnPath_61 : decode prog_4_method_9_code 61 = .ok (.return_, 1) := by decide +kernel
theorem dB_follow_0 : decode prog_4_method_6_code 0 = .ok (.aload_n 1, 1) := by decide +kernel
theorem dB_follow_1 : decode prog_4_method_6_code 1 = .ok (.getfield 70, 3) := by decide +kernel
theorem dB_follow_4 : decode prog_4_method_6_code 4 = .ok (.aload_n 0, 1) := by decide +kernel
theorem dB_follow_5 : decode prog_4_method_6_code 5 = .ok (.getfield 15, 3) := by decide +kernel
theorem dB_follow_8 : decode prog_4_method_6_code 8 = .ok (.invokestatic 73, 3) := by decide +kernel
theorem dB_follow_11 : decode prog_4_method_6_code 11 = .ok (.iand, 1) := by decide +kernel
theorem dB_follow_12 : decode prog_4_method_6_code 12 = .ok (.ifCond .eq 8, 3) := by decide +kernel
theorem dB_follow_15 : decode prog_4_method_6_code 15 = .ok (.aload_n 0, 1) := by decide +kernel
theorem dB_follow_16 : decode prog_4_method_6_code 16 = .ok (.invokevirtual 37, 3) := by decide +kernel
theorem dB_follow_19 : decode prog_4_method_6_code 19 = .ok (.return_, 1) := by decide +kernel
theorem dB_follow_20 : decode prog_4_method_6_code 20 = .ok (.aload_n 1, 1) := by decide +kernel
theorem dB_follow_21 : decode prog_4_method_6_code 21 = .ok (.getfield 76, 3) := by decide +kernel
theorem dB_follow_24 : decode prog_4_method_6_code 24 = .ok (.aload_n 0, 1) := by decide +kernel
theorem dB_follow_25 : decode prog_4_method_6_code 25 = .ok (.getfield 15, 3) := by decide +kernel
theorem dB_follow_28 : decode prog_4_method_6_code 28 = .ok (.invokestatic 73, 3) := by decide +kernel
theorem dB_follow_31 : decode prog_4_method_6_code 31 = .ok (.iand, 1) := by decide +kernel
theorem dB_follow_32 : decode prog_4_method_6_code 32 = .ok (.ifCond .eq 23, 3) := by decide +kernel
theorem dB_follow_35 : decode prog_4_method_6_code 35 = .ok (.aload_n 0, 1) := by decide +kernel
theorem dB_follow_36 : decode prog_4_method_6_code 36 = .ok (.getfield 21, 3) := by decide +kernel
theorem dB_follow_39 : decode prog_4_method_6_code 39 = .ok (.iconst 0, 1) := by decide +kernel
theorem dB_follow_40 : decode prog_4_method_6_code 40 = .ok (.aload_n 1, 1) := by decide +kernel
theorem dB_follow_41 : decode prog_4_method_6_code 41 = .ok (.getfield 46, 3) := by decide +kernel
theorem dB_follow_44 : decode prog_4_method_6_code 44 = .ok (.aload_n 0, 1) := by decide +kernel
theorem dB_follow_45 : decode prog_4_method_6_code 45 = .ok (.getfield 15, 3) := by decide +kernel
theorem dB_follow_48 : decode prog_4_method_6_code 48 = .ok (.invokestatic 50, 3) := by decide +kernel
theorem dB_follow_51 : decode prog_4_method_6_code 51 = .ok (.invokevirtual 54, 3) := by decide +kernel
theorem dB_follow_54 : decode prog_4_method_6_code 54 = .ok (.iastore, 1) := by decide +kernel
theorem dB_follow_55 : decode prog_4_method_6_code 55 = .ok (.aload_n 1, 1) := by decide +kernel
theorem dB_follow_56 : decode prog_4_method_6_code 56 = .ok (.aload_n 0, 1) := by decide +kernel
theorem dB_follow_57 : decode prog_4_method_6_code 57 = .ok (.getfield 15, 3) := by decide +kernel
theorem dB_follow_60 : decode prog_4_method_6_code 60 = .ok (.invokevirtual 63, 3) := by decide +kernel
theorem dB_follow_63 : decode prog_4_method_6_code 63 = .ok (.istore_n 2, 1) := by decide +kernel
theorem dB_follow_64 : decode prog_4_method_6_code 64 = .ok (.iload_n 2, 1) := by decide +kernel
theorem dB_follow_65 : decode prog_4_method_6_code 65 = .ok (.iconst (-1), 1) := by decide +kernel
theorem dB_follow_66 : decode prog_4_method_6_code 66 = .ok (.if_icmp .eq 16, 3) := by decide +kernel
theorem dB_follow_69 : decode prog_4_method_6_code 69 = .ok (.aload_n 0, 1) := by decide +kernel
theorem dB_follow_70 : decode prog_4_method_6_code 70 = .ok (.aload_n 1, 1) := by decide +kernel
theorem dB_follow_71 : decode prog_4_method_6_code 71 = .ok (.iload_n 2, 1) := by decide +kernel
theorem dB_follow_72 : decode prog_4_method_6_code 72 = .ok (.invokevirtual 79, 3) := by decide +kernel
theorem dB_follow_75 : decode prog_4_method_6_code 75 = .ok (.ifCond .ne 7, 3) := by decide +kernel
theorem dB_follow_78 : decode prog_4_method_6_code 78 = .ok (.iconst 1, 1) := by decide +kernel
theorem dB_follow_79 : decode prog_4_method_6_code 79 = .ok (.goto 4, 3) := by decide +kernel
theorem dB_follow_82 : decode prog_4_method_6_code 82 = .ok (.iconst 0, 1) := by decide +kernel
theorem dB_follow_83 : decode prog_4_method_6_code 83 = .ok (.istore_n 3, 1) := by decide +kernel
theorem dB_follow_84 : decode prog_4_method_6_code 84 = .ok (.aload_n 0, 1) := by decide +kernel
theorem dB_follow_85 : decode prog_4_method_6_code 85 = .ok (.aload_n 1, 1) := by decide +kernel
theorem dB_follow_86 : decode prog_4_method_6_code 86 = .ok (.getfield 46, 3) := by decide +kernel
theorem dB_follow_89 : decode prog_4_method_6_code 89 = .ok (.invokevirtual 59, 3) := by decide +kernel
theorem dB_follow_92 : decode prog_4_method_6_code 92 = .ok (.iload_n 3, 1) := by decide +kernel
theorem dB_follow_93 : decode prog_4_method_6_code 93 = .ok (.ifCond .eq 16, 3) := by decide +kernel
theorem dB_follow_96 : decode prog_4_method_6_code 96 = .ok (.aload_n 0, 1) := by decide +kernel
theorem dB_follow_97 : decode prog_4_method_6_code 97 = .ok (.dup, 1) := by decide +kernel
theorem dB_follow_98 : decode prog_4_method_6_code 98 = .ok (.getfield 83, 3) := by decide +kernel
theorem dB_follow_101 : decode prog_4_method_6_code 101 = .ok (.iconst 1, 1) := by decide +kernel
theorem dB_follow_102 : decode prog_4_method_6_code 102 = .ok (.iadd, 1) := by decide +kernel
theorem dB_follow_103 : decode prog_4_method_6_code 103 = .ok (.putfield 83, 3) := by decide +kernel
theorem dB_follow_106 : decode prog_4_method_6_code 106 = .ok (.goto 9, 3) := by decide +kernel
theorem dB_follow_109 : decode prog_4_method_6_code 109 = .ok (.aload_n 0, 1) := by decide +kernel
theorem dB_follow_110 : decode prog_4_method_6_code 110 = .ok (.aload_n 1, 1) := by decide +kernel
theorem dB_follow_111 : decode prog_4_method_6_code 111 = .ok (.iload_n 2, 1) := by decide +kernel
theorem dB_follow_112 : decode prog_4_method_6_code 112 = .ok (.invokevirtual 66, 3) := by decide +kernel
theorem dB_follow_115 : decode prog_4_method_6_code 115 = .ok (.aload_n 0, 1) := by decide +kernel
theorem dB_follow_116 : decode prog_4_method_6_code 116 = .ok (.aload_n 1, 1) := by decide +kernel
theorem dB_follow_117 : decode prog_4_method_6_code 117 = .ok (.getfield 40, 3) := by decide +kernel
theorem dB_follow_120 : decode prog_4_method_6_code 120 = .ok (.putfield 9, 3) := by decide +kernel
theorem dB_follow_123 : decode prog_4_method_6_code 123 = .ok (.aload_n 0, 1) := by decide +kernel
theorem dB_follow_124 : decode prog_4_method_6_code 124 = .ok (.aload_n 0, 1) := by decide +kernel
theorem dB_follow_125 : decode prog_4_method_6_code 125 = .ok (.getfield 18, 3) := by decide +kernel
theorem dB_follow_128 : decode prog_4_method_6_code 128 = .ok (.iconst (-1), 1) := by decide +kernel
theorem dB_follow_129 : decode prog_4_method_6_code 129 = .ok (.if_icmp .eq 7, 3) := by decide +kernel
theorem dB_follow_132 : decode prog_4_method_6_code 132 = .ok (.iload_n 3, 1) := by decide +kernel
theorem dB_follow_133 : decode prog_4_method_6_code 133 = .ok (.ifCond .eq 7, 3) := by decide +kernel
theorem dB_follow_136 : decode prog_4_method_6_code 136 = .ok (.iconst (-1), 1) := by decide +kernel
theorem dB_follow_137 : decode prog_4_method_6_code 137 = .ok (.goto 7, 3) := by decide +kernel
theorem dB_follow_140 : decode prog_4_method_6_code 140 = .ok (.aload_n 1, 1) := by decide +kernel
theorem dB_follow_141 : decode prog_4_method_6_code 141 = .ok (.getfield 45, 3) := by decide +kernel
theorem dB_follow_144 : decode prog_4_method_6_code 144 = .ok (.putfield 18, 3) := by decide +kernel
theorem dB_follow_147 : decode prog_4_method_6_code 147 = .ok (.aload_n 0, 1) := by decide +kernel
theorem dB_follow_148 : decode prog_4_method_6_code 148 = .ok (.iconst 0, 1) := by decide +kernel
theorem dB_follow_149 : decode prog_4_method_6_code 149 = .ok (.putfield 34, 3) := by decide +kernel
theorem dB_follow_152 : decode prog_4_method_6_code 152 = .ok (.return_, 1) := by decide +kernel
theorem dB_canOpen_0 : decode prog_4_method_7_code 0 = .ok (.aload_n 0, 1) := by decide +kernel
theorem dB_canOpen_1 : decode prog_4_method_7_code 1 = .ok (.getfield 15, 3) := by decide +kernel
theorem dB_canOpen_4 : decode prog_4_method_7_code 4 = .ok (.iload_n 2, 1) := by decide +kernel
theorem dB_canOpen_5 : decode prog_4_method_7_code 5 = .ok (.iconst 1, 1) := by decide +kernel
theorem dB_canOpen_6 : decode prog_4_method_7_code 6 = .ok (.isub, 1) := by decide +kernel
theorem dB_canOpen_7 : decode prog_4_method_7_code 7 = .ok (.invokestatic 86, 3) := by decide +kernel
theorem dB_canOpen_10 : decode prog_4_method_7_code 10 = .ok (.istore_n 3, 1) := by decide +kernel
theorem dB_canOpen_11 : decode prog_4_method_7_code 11 = .ok (.aload_n 1, 1) := by decide +kernel
theorem dB_canOpen_12 : decode prog_4_method_7_code 12 = .ok (.getfield 46, 3) := by decide +kernel
theorem dB_canOpen_15 : decode prog_4_method_7_code 15 = .ok (.iload_n 3, 1) := by decide +kernel
theorem dB_canOpen_16 : decode prog_4_method_7_code 16 = .ok (.iload_n 2, 1) := by decide +kernel
theorem dB_canOpen_17 : decode prog_4_method_7_code 17 = .ok (.iconst 1, 1) := by decide +kernel
theorem dB_canOpen_18 : decode prog_4_method_7_code 18 = .ok (.isub, 1) := by decide +kernel
theorem dB_canOpen_19 : decode prog_4_method_7_code 19 = .ok (.invokevirtual 90, 3) := by decide +kernel
theorem dB_canOpen_22 : decode prog_4_method_7_code 22 = .ok (.aload_n 1, 1) := by decide +kernel
theorem dB_canOpen_23 : decode prog_4_method_7_code 23 = .ok (.getfield 93, 3) := by decide +kernel
theorem dB_canOpen_26 : decode prog_4_method_7_code 26 = .ok (.invokestatic 96, 3) := by decide +kernel
theorem dB_canOpen_29 : decode prog_4_method_7_code 29 = .ok (.iconst (-1), 1) := by decide +kernel
theorem dB_canOpen_30 : decode prog_4_method_7_code 30 = .ok (.ixor, 1) := by decide +kernel
theorem dB_canOpen_31 : decode prog_4_method_7_code 31 = .ok (.iand, 1) := by decide +kernel
theorem dB_canOpen_32 : decode prog_4_method_7_code 32 = .ok (.istore 4, 2) := by decide +kernel
theorem dB_canOpen_34 : decode prog_4_method_7_code 34 = .ok (.iconst 0, 1) := by decide +kernel
theorem dB_canOpen_35 : decode prog_4_method_7_code 35 = .ok (.istore 5, 2) := by decide +kernel
theorem dB_canOpen_37 : decode prog_4_method_7_code 37 = .ok (.iload 5, 2) := by decide +kernel
theorem dB_canOpen_39 : decode prog_4_method_7_code 39 = .ok (.iload_n 2, 1) := by decide +kernel
theorem dB_canOpen_40 : decode prog_4_method_7_code 40 = .ok (.if_icmp .ge 58, 3) := by decide +kernel
theorem dB_canOpen_43 : decode prog_4_method_7_code 43 = .ok (.iload 5, 2) := by decide +kernel
theorem dB_canOpen_45 : decode prog_4_method_7_code 45 = .ok (.iconst 4, 1) := by decide +kernel
theorem dB_canOpen_46 : decode prog_4_method_7_code 46 = .ok (.if_icmp .gt 52, 3) := by decide +kernel
theorem dB_canOpen_49 : decode prog_4_method_7_code 49 = .ok (.aload_n 0, 1) := by decide +kernel
theorem dB_canOpen_50 : decode prog_4_method_7_code 50 = .ok (.getfield 15, 3) := by decide +kernel
theorem dB_canOpen_53 : decode prog_4_method_7_code 53 = .ok (.iload 5, 2) := by decide +kernel
theorem dB_canOpen_55 : decode prog_4_method_7_code 55 = .ok (.invokestatic 86, 3) := by decide +kernel
theorem dB_canOpen_58 : decode prog_4_method_7_code 58 = .ok (.istore 6, 2) := by decide +kernel
theorem dB_canOpen_60 : decode prog_4_method_7_code 60 = .ok (.iload 4, 2) := by decide +kernel
theorem dB_canOpen_62 : decode prog_4_method_7_code 62 = .ok (.iload 6, 2) := by decide +kernel
theorem dB_canOpen_64 : decode prog_4_method_7_code 64 = .ok (.invokestatic 73, 3) := by decide +kernel
theorem dB_canOpen_67 : decode prog_4_method_7_code 67 = .ok (.iand, 1) := by decide +kernel
theorem dB_canOpen_68 : decode prog_4_method_7_code 68 = .ok (.ifCond .eq 24, 3) := by decide +kernel
theorem dB_canOpen_71 : decode prog_4_method_7_code 71 = .ok (.aload_n 0, 1) := by decide +kernel
theorem dB_canOpen_72 : decode prog_4_method_7_code 72 = .ok (.getfield 21, 3) := by decide +kernel
theorem dB_canOpen_75 : decode prog_4_method_7_code 75 = .ok (.iload 5, 2) := by decide +kernel
theorem dB_canOpen_77 : decode prog_4_method_7_code 77 = .ok (.iaload, 1) := by decide +kernel
theorem dB_canOpen_78 : decode prog_4_method_7_code 78 = .ok (.aload_n 1, 1) := by decide +kernel
theorem dB_canOpen_79 : decode prog_4_method_7_code 79 = .ok (.getfield 46, 3) := by decide +kernel
theorem dB_canOpen_82 : decode prog_4_method_7_code 82 = .ok (.iload 6, 2) := by decide +kernel
theorem dB_canOpen_84 : decode prog_4_method_7_code 84 = .ok (.invokevirtual 54, 3) := by decide +kernel
theorem dB_canOpen_87 : decode prog_4_method_7_code 87 = .ok (.if_icmp .ne 5, 3) := by decide +kernel
theorem dB_canOpen_90 : decode prog_4_method_7_code 90 = .ok (.iconst 1, 1) := by decide +kernel
theorem dB_canOpen_91 : decode prog_4_method_7_code 91 = .ok (.ireturn, 1) := by decide +kernel
theorem dB_canOpen_92 : decode prog_4_method_7_code 92 = .ok (.iinc 5 1, 3) := by decide +kernel
theorem dB_canOpen_95 : decode prog_4_method_7_code 95 = .ok (.goto (-58), 3) := by decide +kernel
theorem dB_canOpen_98 : decode prog_4_method_7_code 98 = .ok (.iconst 0, 1) := by decide +kernel
theorem dB_canOpen_99 : decode prog_4_method_7_code 99 = .ok (.ireturn, 1) := by decide +kernel
end
section
theorem dE_init_0 : decode prog_2_method_1_code 0 = .ok (.aload_n 0, 1) := by decide +kernel
theorem dE_init_1 : decode prog_2_method_1_code 1 = .ok (.invokespecial 3, 3) := by decide +kernel
theorem dE_init_4 : decode prog_2_method_1_code 4 = .ok (.aload_n 0, 1) := by decide +kernel
theorem dE_init_5 : decode prog_2_method_1_code 5 = .ok (.iconst (-1), 1) := by decide +kernel
theorem dE_init_6 : decode prog_2_method_1_code 6 = .ok (.putfield 9, 3) := by decide +kernel
theorem dE_init_9 : decode prog_2_method_1_code 9 = .ok (.aload_n 0, 1) := by decide +kernel
theorem dE_init_10 : decode prog_2_method_1_code 10 = .ok (.iload_n 1, 1) := by decide +kernel
theorem dE_init_11 : decode prog_2_method_1_code 11 = .ok (.putfield 15, 3) := by decide +kernel
theorem dE_init_14 : decode prog_2_method_1_code 14 = .ok (.aload_n 0, 1) := by decide +kernel
theorem dE_init_15 : decode prog_2_method_1_code 15 = .ok (.aload_n 2, 1) := by decide +kernel
theorem dE_init_16 : decode prog_2_method_1_code 16 = .ok (.putfield 18, 3) := by decide +kernel
theorem dE_init_19 : decode prog_2_method_1_code 19 = .ok (.aload_n 0, 1) := by decide +kernel
theorem dE_init_20 : decode prog_2_method_1_code 20 = .ok (.iload_n 3, 1) := by decide +kernel
theorem dE_init_21 : decode prog_2_method_1_code 21 = .ok (.putfield 22, 3) := by decide +kernel
theorem dE_init_24 : decode prog_2_method_1_code 24 = .ok (.return_, 1) := by decide +kernel
theorem dE_lowestCounting_0 : decode prog_2_method_2_code 0 = .ok (.iconst 1, 1) := by decide +kernel
theorem dE_lowestCounting_1 : decode prog_2_method_2_code 1 = .ok (.istore_n 2, 1) := by decide +kernel
theorem dE_lowestCounting_2 : decode prog_2_method_2_code 2 = .ok (.iload_n 2, 1) := by decide +kernel
theorem dE_lowestCounting_3 : decode prog_2_method_2_code 3 = .ok (.aload_n 0, 1) := by decide +kernel
theorem dE_lowestCounting_4 : decode prog_2_method_2_code 4 = .ok (.getfield 18, 3) := by decide +kernel
theorem dE_lowestCounting_7 : decode prog_2_method_2_code 7 = .ok (.getfield 25, 3) := by decide +kernel
theorem dE_lowestCounting_10 : decode prog_2_method_2_code 10 = .ok (.if_icmp .gt 27, 3) := by decide +kernel
theorem dE_lowestCounting_13 : decode prog_2_method_2_code 13 = .ok (.aload_n 0, 1) := by decide +kernel
theorem dE_lowestCounting_14 : decode prog_2_method_2_code 14 = .ok (.getfield 30, 3) := by decide +kernel
theorem dE_lowestCounting_17 : decode prog_2_method_2_code 17 = .ok (.iload_n 1, 1) := by decide +kernel
theorem dE_lowestCounting_18 : decode prog_2_method_2_code 18 = .ok (.iload_n 2, 1) := by decide +kernel
theorem dE_lowestCounting_19 : decode prog_2_method_2_code 19 = .ok (.invokestatic 33, 3) := by decide +kernel
theorem dE_lowestCounting_22 : decode prog_2_method_2_code 22 = .ok (.invokestatic 37, 3) := by decide +kernel
theorem dE_lowestCounting_25 : decode prog_2_method_2_code 25 = .ok (.iand, 1) := by decide +kernel
theorem dE_lowestCounting_26 : decode prog_2_method_2_code 26 = .ok (.ifCond .eq 5, 3) := by decide +kernel
theorem dE_lowestCounting_29 : decode prog_2_method_2_code 29 = .ok (.iload_n 2, 1) := by decide +kernel
theorem dE_lowestCounting_30 : decode prog_2_method_2_code 30 = .ok (.ireturn, 1) := by decide +kernel
theorem dE_lowestCounting_31 : decode prog_2_method_2_code 31 = .ok (.iinc 2 1, 3) := by decide +kernel
theorem dE_lowestCounting_34 : decode prog_2_method_2_code 34 = .ok (.goto (-32), 3) := by decide +kernel
theorem dE_lowestCounting_37 : decode prog_2_method_2_code 37 = .ok (.iconst (-1), 1) := by decide +kernel
theorem dE_lowestCounting_38 : decode prog_2_method_2_code 38 = .ok (.ireturn, 1) := by decide +kernel
end
section
theorem dT_init0_0 : decode prog_7_method_1_code 0 = .ok (.aload_n 0, 1) := by decide +kernel
theorem dT_init0_1 : decode prog_7_method_1_code 1 = .ok (.invokespecial 3, 3) := by decide +kernel
theorem dT_init0_4 : decode prog_7_method_1_code 4 = .ok (.aload_n 0, 1) := by decide +kernel
theorem dT_init0_5 : decode prog_7_method_1_code 5 = .ok (.bipush 31, 2) := by decide +kernel
theorem dT_init0_7 : decode prog_7_method_1_code 7 = .ok (.newarray .int, 2) := by decide +kernel
theorem dT_init0_9 : decode prog_7_method_1_code 9 = .ok (.putfield 9, 3) := by decide +kernel
theorem dT_init0_12 : decode prog_7_method_1_code 12 = .ok (.aload_n 0, 1) := by decide +kernel
theorem dT_init0_13 : decode prog_7_method_1_code 13 = .ok (.bipush 31, 2) := by decide +kernel
theorem dT_init0_15 : decode prog_7_method_1_code 15 = .ok (.newarray .int, 2) := by decide +kernel
theorem dT_init0_17 : decode prog_7_method_1_code 17 = .ok (.putfield 15, 3) := by decide +kernel
theorem dT_init0_20 : decode prog_7_method_1_code 20 = .ok (.aload_n 0, 1) := by decide +kernel
theorem dT_init0_21 : decode prog_7_method_1_code 21 = .ok (.bipush 31, 2) := by decide +kernel
theorem dT_init0_23 : decode prog_7_method_1_code 23 = .ok (.newarray .int, 2) := by decide +kernel
theorem dT_init0_25 : decode prog_7_method_1_code 25 = .ok (.putfield 18, 3) := by decide +kernel
theorem dT_init0_28 : decode prog_7_method_1_code 28 = .ok (.aload_n 0, 1) := by decide +kernel
theorem dT_init0_29 : decode prog_7_method_1_code 29 = .ok (.getfield 9, 3) := by decide +kernel
theorem dT_init0_32 : decode prog_7_method_1_code 32 = .ok (.iconst (-1), 1) := by decide +kernel
theorem dT_init0_33 : decode prog_7_method_1_code 33 = .ok (.invokestatic 21, 3) := by decide +kernel
theorem dT_init0_36 : decode prog_7_method_1_code 36 = .ok (.aload_n 0, 1) := by decide +kernel
theorem dT_init0_37 : decode prog_7_method_1_code 37 = .ok (.getfield 15, 3) := by decide +kernel
theorem dT_init0_40 : decode prog_7_method_1_code 40 = .ok (.iconst (-1), 1) := by decide +kernel
theorem dT_init0_41 : decode prog_7_method_1_code 41 = .ok (.invokestatic 21, 3) := by decide +kernel
theorem dT_init0_44 : decode prog_7_method_1_code 44 = .ok (.return_, 1) := by decide +kernel
theorem dT_give_0 : decode prog_7_method_7_code 0 = .ok (.aload_n 0, 1) := by decide +kernel
theorem dT_give_1 : decode prog_7_method_7_code 1 = .ok (.iload_n 1, 1) := by decide +kernel
theorem dT_give_2 : decode prog_7_method_7_code 2 = .ok (.invokevirtual 35, 3) := by decide +kernel
theorem dT_give_5 : decode prog_7_method_7_code 5 = .ok (.ifCond .eq 24, 3) := by decide +kernel
theorem dT_give_8 : decode prog_7_method_7_code 8 = .ok (.aload_n 0, 1) := by decide +kernel
theorem dT_give_9 : decode prog_7_method_7_code 9 = .ok (.getfield 9, 3) := by decide +kernel
theorem dT_give_12 : decode prog_7_method_7_code 12 = .ok (.iload_n 1, 1) := by decide +kernel
theorem dT_give_13 : decode prog_7_method_7_code 13 = .ok (.iload_n 2, 1) := by decide +kernel
theorem dT_give_14 : decode prog_7_method_7_code 14 = .ok (.iastore, 1) := by decide +kernel
theorem dT_give_15 : decode prog_7_method_7_code 15 = .ok (.aload_n 0, 1) := by decide +kernel
theorem dT_give_16 : decode prog_7_method_7_code 16 = .ok (.getfield 15, 3) := by decide +kernel
theorem dT_give_19 : decode prog_7_method_7_code 19 = .ok (.iload_n 1, 1) := by decide +kernel
theorem dT_give_20 : decode prog_7_method_7_code 20 = .ok (.iload_n 3, 1) := by decide +kernel
theorem dT_give_21 : decode prog_7_method_7_code 21 = .ok (.iastore, 1) := by decide +kernel
theorem dT_give_22 : decode prog_7_method_7_code 22 = .ok (.aload_n 0, 1) := by decide +kernel
theorem dT_give_23 : decode prog_7_method_7_code 23 = .ok (.getfield 18, 3) := by decide +kernel
theorem dT_give_26 : decode prog_7_method_7_code 26 = .ok (.iload_n 1, 1) := by decide +kernel
theorem dT_give_27 : decode prog_7_method_7_code 27 = .ok (.iconst 0, 1) := by decide +kernel
theorem dT_give_28 : decode prog_7_method_7_code 28 = .ok (.iastore, 1) := by decide +kernel
theorem dT_give_29 : decode prog_7_method_7_code 29 = .ok (.return_, 1) := by decide +kernel
theorem dT_isThere_0 : decode prog_7_method_3_code 0 = .ok (.iload_n 1, 1) := by decide +kernel
theorem dT_isThere_1 : decode prog_7_method_3_code 1 = .ok (.ifCond .lt 19, 3) := by decide +kernel
theorem dT_isThere_4 : decode prog_7_method_3_code 4 = .ok (.iload_n 1, 1) := by decide +kernel
theorem dT_isThere_5 : decode prog_7_method_3_code 5 = .ok (.iconst 2, 1) := by decide +kernel
theorem dT_isThere_6 : decode prog_7_method_3_code 6 = .ok (.aload_n 0, 1) := by decide +kernel
theorem dT_isThere_7 : decode prog_7_method_3_code 7 = .ok (.getfield 27, 3) := by decide +kernel
theorem dT_isThere_10 : decode prog_7_method_3_code 10 = .ok (.ishl, 1) := by decide +kernel
theorem dT_isThere_11 : decode prog_7_method_3_code 11 = .ok (.iconst 1, 1) := by decide +kernel
theorem dT_isThere_12 : decode prog_7_method_3_code 12 = .ok (.isub, 1) := by decide +kernel
theorem dT_isThere_13 : decode prog_7_method_3_code 13 = .ok (.if_icmp .ge 7, 3) := by decide +kernel
theorem dT_isThere_16 : decode prog_7_method_3_code 16 = .ok (.iconst 1, 1) := by decide +kernel
theorem dT_isThere_17 : decode prog_7_method_3_code 17 = .ok (.goto 4, 3) := by decide +kernel
theorem dT_isThere_20 : decode prog_7_method_3_code 20 = .ok (.iconst 0, 1) := by decide +kernel
theorem dT_isThere_21 : decode prog_7_method_3_code 21 = .ok (.ireturn, 1) := by decide +kernel
theorem dT_keyOf_0 : decode prog_7_method_4_code 0 = .ok (.aload_n 0, 1) := by decide +kernel
theorem dT_keyOf_1 : decode prog_7_method_4_code 1 = .ok (.iload_n 1, 1) := by decide +kernel
theorem dT_keyOf_2 : decode prog_7_method_4_code 2 = .ok (.invokevirtual 35, 3) := by decide +kernel
theorem dT_keyOf_5 : decode prog_7_method_4_code 5 = .ok (.ifCond .eq 12, 3) := by decide +kernel
theorem dT_keyOf_8 : decode prog_7_method_4_code 8 = .ok (.aload_n 0, 1) := by decide +kernel
theorem dT_keyOf_9 : decode prog_7_method_4_code 9 = .ok (.getfield 9, 3) := by decide +kernel
theorem dT_keyOf_12 : decode prog_7_method_4_code 12 = .ok (.iload_n 1, 1) := by decide +kernel
theorem dT_keyOf_13 : decode prog_7_method_4_code 13 = .ok (.iaload, 1) := by decide +kernel
theorem dT_keyOf_14 : decode prog_7_method_4_code 14 = .ok (.goto 4, 3) := by decide +kernel
theorem dT_keyOf_17 : decode prog_7_method_4_code 17 = .ok (.iconst (-1), 1) := by decide +kernel
theorem dT_keyOf_18 : decode prog_7_method_4_code 18 = .ok (.ireturn, 1) := by decide +kernel
theorem dT_unmergedAt_0 : decode prog_7_method_6_code 0 = .ok (.aload_n 0, 1) := by decide +kernel
theorem dT_unmergedAt_1 : decode prog_7_method_6_code 1 = .ok (.iload_n 1, 1) := by decide +kernel
theorem dT_unmergedAt_2 : decode prog_7_method_6_code 2 = .ok (.invokevirtual 35, 3) := by decide +kernel
theorem dT_unmergedAt_5 : decode prog_7_method_6_code 5 = .ok (.ifCond .eq 12, 3) := by decide +kernel
theorem dT_unmergedAt_8 : decode prog_7_method_6_code 8 = .ok (.aload_n 0, 1) := by decide +kernel
theorem dT_unmergedAt_9 : decode prog_7_method_6_code 9 = .ok (.getfield 18, 3) := by decide +kernel
theorem dT_unmergedAt_12 : decode prog_7_method_6_code 12 = .ok (.iload_n 1, 1) := by decide +kernel
theorem dT_unmergedAt_13 : decode prog_7_method_6_code 13 = .ok (.iaload, 1) := by decide +kernel
theorem dT_unmergedAt_14 : decode prog_7_method_6_code 14 = .ok (.goto 4, 3) := by decide +kernel
theorem dT_unmergedAt_17 : decode prog_7_method_6_code 17 = .ok (.iconst 0, 1) := by decide +kernel
theorem dT_unmergedAt_18 : decode prog_7_method_6_code 18 = .ok (.ireturn, 1) := by decide +kernel
theorem dT_bornAt_0 : decode prog_7_method_5_code 0 = .ok (.aload_n 0, 1) := by decide +kernel
theorem dT_bornAt_1 : decode prog_7_method_5_code 1 = .ok (.iload_n 1, 1) := by decide +kernel
theorem dT_bornAt_2 : decode prog_7_method_5_code 2 = .ok (.invokevirtual 35, 3) := by decide +kernel
theorem dT_bornAt_5 : decode prog_7_method_5_code 5 = .ok (.ifCond .eq 12, 3) := by decide +kernel
theorem dT_bornAt_8 : decode prog_7_method_5_code 8 = .ok (.aload_n 0, 1) := by decide +kernel
theorem dT_bornAt_9 : decode prog_7_method_5_code 9 = .ok (.getfield 15, 3) := by decide +kernel
theorem dT_bornAt_12 : decode prog_7_method_5_code 12 = .ok (.iload_n 1, 1) := by decide +kernel
theorem dT_bornAt_13 : decode prog_7_method_5_code 13 = .ok (.iaload, 1) := by decide +kernel
theorem dT_bornAt_14 : decode prog_7_method_5_code 14 = .ok (.goto 4, 3) := by decide +kernel
theorem dT_bornAt_17 : decode prog_7_method_5_code 17 = .ok (.iconst (-1), 1) := by decide +kernel
theorem dT_bornAt_18 : decode prog_7_method_5_code 18 = .ok (.ireturn, 1) := by decide +kernel
theorem dT_resolution_0 : decode prog_7_method_14_code 0 = .ok (.aload_n 0, 1) := by decide +kernel
theorem dT_resolution_1 : decode prog_7_method_14_code 1 = .ok (.iload_n 1, 1) := by decide +kernel
theorem dT_resolution_2 : decode prog_7_method_14_code 2 = .ok (.invokevirtual 35, 3) := by decide +kernel
theorem dT_resolution_5 : decode prog_7_method_14_code 5 = .ok (.ifCond .ne 5, 3) := by decide +kernel
theorem dT_resolution_8 : decode prog_7_method_14_code 8 = .ok (.iconst 0, 1) := by decide +kernel
theorem dT_resolution_9 : decode prog_7_method_14_code 9 = .ok (.ireturn, 1) := by decide +kernel
theorem dT_resolution_10 : decode prog_7_method_14_code 10 = .ok (.aload_n 0, 1) := by decide +kernel
theorem dT_resolution_11 : decode prog_7_method_14_code 11 = .ok (.getfield 9, 3) := by decide +kernel
theorem dT_resolution_14 : decode prog_7_method_14_code 14 = .ok (.iload_n 1, 1) := by decide +kernel
theorem dT_resolution_15 : decode prog_7_method_14_code 15 = .ok (.iaload, 1) := by decide +kernel
theorem dT_resolution_16 : decode prog_7_method_14_code 16 = .ok (.iconst (-1), 1) := by decide +kernel
theorem dT_resolution_17 : decode prog_7_method_14_code 17 = .ok (.if_icmp .eq 18, 3) := by decide +kernel
theorem dT_resolution_20 : decode prog_7_method_14_code 20 = .ok (.iload_n 1, 1) := by decide +kernel
theorem dT_resolution_21 : decode prog_7_method_14_code 21 = .ok (.invokestatic 55, 3) := by decide +kernel
theorem dT_resolution_24 : decode prog_7_method_14_code 24 = .ok (.aload_n 0, 1) := by decide +kernel
theorem dT_resolution_25 : decode prog_7_method_14_code 25 = .ok (.getfield 18, 3) := by decide +kernel
theorem dT_resolution_28 : decode prog_7_method_14_code 28 = .ok (.iload_n 1, 1) := by decide +kernel
theorem dT_resolution_29 : decode prog_7_method_14_code 29 = .ok (.iaload, 1) := by decide +kernel
theorem dT_resolution_30 : decode prog_7_method_14_code 30 = .ok (.invokestatic 64, 3) := by decide +kernel
theorem dT_resolution_33 : decode prog_7_method_14_code 33 = .ok (.ior, 1) := by decide +kernel
theorem dT_resolution_34 : decode prog_7_method_14_code 34 = .ok (.ireturn, 1) := by decide +kernel
theorem dT_resolution_35 : decode prog_7_method_14_code 35 = .ok (.iload_n 2, 1) := by decide +kernel
theorem dT_resolution_36 : decode prog_7_method_14_code 36 = .ok (.ifCond .gt 5, 3) := by decide +kernel
theorem dT_resolution_39 : decode prog_7_method_14_code 39 = .ok (.iconst 0, 1) := by decide +kernel
theorem dT_resolution_40 : decode prog_7_method_14_code 40 = .ok (.ireturn, 1) := by decide +kernel
theorem dT_resolution_41 : decode prog_7_method_14_code 41 = .ok (.iconst 1, 1) := by decide +kernel
theorem dT_resolution_42 : decode prog_7_method_14_code 42 = .ok (.iload_n 2, 1) := by decide +kernel
theorem dT_resolution_43 : decode prog_7_method_14_code 43 = .ok (.iconst 1, 1) := by decide +kernel
theorem dT_resolution_44 : decode prog_7_method_14_code 44 = .ok (.isub, 1) := by decide +kernel
theorem dT_resolution_45 : decode prog_7_method_14_code 45 = .ok (.ishl, 1) := by decide +kernel
theorem dT_resolution_46 : decode prog_7_method_14_code 46 = .ok (.istore_n 3, 1) := by decide +kernel
theorem dT_resolution_47 : decode prog_7_method_14_code 47 = .ok (.aload_n 0, 1) := by decide +kernel
theorem dT_resolution_48 : decode prog_7_method_14_code 48 = .ok (.iload_n 1, 1) := by decide +kernel
theorem dT_resolution_49 : decode prog_7_method_14_code 49 = .ok (.iload_n 3, 1) := by decide +kernel
theorem dT_resolution_50 : decode prog_7_method_14_code 50 = .ok (.isub, 1) := by decide +kernel
theorem dT_resolution_51 : decode prog_7_method_14_code 51 = .ok (.iload_n 2, 1) := by decide +kernel
theorem dT_resolution_52 : decode prog_7_method_14_code 52 = .ok (.iconst 1, 1) := by decide +kernel
theorem dT_resolution_53 : decode prog_7_method_14_code 53 = .ok (.isub, 1) := by decide +kernel
theorem dT_resolution_54 : decode prog_7_method_14_code 54 = .ok (.invokevirtual 67, 3) := by decide +kernel
theorem dT_resolution_57 : decode prog_7_method_14_code 57 = .ok (.aload_n 0, 1) := by decide +kernel
theorem dT_resolution_58 : decode prog_7_method_14_code 58 = .ok (.iload_n 1, 1) := by decide +kernel
theorem dT_resolution_59 : decode prog_7_method_14_code 59 = .ok (.iload_n 3, 1) := by decide +kernel
theorem dT_resolution_60 : decode prog_7_method_14_code 60 = .ok (.iadd, 1) := by decide +kernel
theorem dT_resolution_61 : decode prog_7_method_14_code 61 = .ok (.iload_n 2, 1) := by decide +kernel
theorem dT_resolution_62 : decode prog_7_method_14_code 62 = .ok (.iconst 1, 1) := by decide +kernel
theorem dT_resolution_63 : decode prog_7_method_14_code 63 = .ok (.isub, 1) := by decide +kernel
theorem dT_resolution_64 : decode prog_7_method_14_code 64 = .ok (.invokevirtual 67, 3) := by decide +kernel
theorem dT_resolution_67 : decode prog_7_method_14_code 67 = .ok (.ior, 1) := by decide +kernel
theorem dT_resolution_68 : decode prog_7_method_14_code 68 = .ok (.ireturn, 1) := by decide +kernel
theorem dT_init1_0 : decode prog_7_method_2_code 0 = .ok (.aload_n 0, 1) := by decide +kernel
theorem dT_init1_1 : decode prog_7_method_2_code 1 = .ok (.invokespecial 3, 3) := by decide +kernel
theorem dT_init1_4 : decode prog_7_method_2_code 4 = .ok (.aload_n 0, 1) := by decide +kernel
theorem dT_init1_5 : decode prog_7_method_2_code 5 = .ok (.aload_n 1, 1) := by decide +kernel
theorem dT_init1_6 : decode prog_7_method_2_code 6 = .ok (.getfield 27, 3) := by decide +kernel
theorem dT_init1_9 : decode prog_7_method_2_code 9 = .ok (.putfield 27, 3) := by decide +kernel
theorem dT_init1_12 : decode prog_7_method_2_code 12 = .ok (.aload_n 0, 1) := by decide +kernel
theorem dT_init1_13 : decode prog_7_method_2_code 13 = .ok (.aload_n 1, 1) := by decide +kernel
theorem dT_init1_14 : decode prog_7_method_2_code 14 = .ok (.getfield 9, 3) := by decide +kernel
theorem dT_init1_17 : decode prog_7_method_2_code 17 = .ok (.bipush 31, 2) := by decide +kernel
theorem dT_init1_19 : decode prog_7_method_2_code 19 = .ok (.invokestatic 31, 3) := by decide +kernel
theorem dT_init1_22 : decode prog_7_method_2_code 22 = .ok (.putfield 9, 3) := by decide +kernel
theorem dT_init1_25 : decode prog_7_method_2_code 25 = .ok (.aload_n 0, 1) := by decide +kernel
theorem dT_init1_26 : decode prog_7_method_2_code 26 = .ok (.aload_n 1, 1) := by decide +kernel
theorem dT_init1_27 : decode prog_7_method_2_code 27 = .ok (.getfield 15, 3) := by decide +kernel
theorem dT_init1_30 : decode prog_7_method_2_code 30 = .ok (.bipush 31, 2) := by decide +kernel
theorem dT_init1_32 : decode prog_7_method_2_code 32 = .ok (.invokestatic 31, 3) := by decide +kernel
theorem dT_init1_35 : decode prog_7_method_2_code 35 = .ok (.putfield 15, 3) := by decide +kernel
theorem dT_init1_38 : decode prog_7_method_2_code 38 = .ok (.aload_n 0, 1) := by decide +kernel
theorem dT_init1_39 : decode prog_7_method_2_code 39 = .ok (.aload_n 1, 1) := by decide +kernel
theorem dT_init1_40 : decode prog_7_method_2_code 40 = .ok (.getfield 18, 3) := by decide +kernel
theorem dT_init1_43 : decode prog_7_method_2_code 43 = .ok (.bipush 31, 2) := by decide +kernel
theorem dT_init1_45 : decode prog_7_method_2_code 45 = .ok (.invokestatic 31, 3) := by decide +kernel
theorem dT_init1_48 : decode prog_7_method_2_code 48 = .ok (.putfield 18, 3) := by decide +kernel
theorem dT_init1_51 : decode prog_7_method_2_code 51 = .ok (.return_, 1) := by decide +kernel
theorem dT_blankLeafAndPath_0 : decode prog_7_method_9_code 0 = .ok (.iconst 0, 1) := by decide +kernel
theorem dT_blankLeafAndPath_1 : decode prog_7_method_9_code 1 = .ok (.istore_n 2, 1) := by decide +kernel
theorem dT_blankLeafAndPath_2 : decode prog_7_method_9_code 2 = .ok (.iload_n 2, 1) := by decide +kernel
theorem dT_blankLeafAndPath_3 : decode prog_7_method_9_code 3 = .ok (.aload_n 0, 1) := by decide +kernel
theorem dT_blankLeafAndPath_4 : decode prog_7_method_9_code 4 = .ok (.getfield 27, 3) := by decide +kernel
theorem dT_blankLeafAndPath_7 : decode prog_7_method_9_code 7 = .ok (.if_icmp .gt 18, 3) := by decide +kernel
theorem dT_blankLeafAndPath_10 : decode prog_7_method_9_code 10 = .ok (.aload_n 0, 1) := by decide +kernel
theorem dT_blankLeafAndPath_11 : decode prog_7_method_9_code 11 = .ok (.iload_n 1, 1) := by decide +kernel
theorem dT_blankLeafAndPath_12 : decode prog_7_method_9_code 12 = .ok (.iload_n 2, 1) := by decide +kernel
theorem dT_blankLeafAndPath_13 : decode prog_7_method_9_code 13 = .ok (.invokestatic 43, 3) := by decide +kernel
theorem dT_blankLeafAndPath_16 : decode prog_7_method_9_code 16 = .ok (.invokevirtual 47, 3) := by decide +kernel
theorem dT_blankLeafAndPath_19 : decode prog_7_method_9_code 19 = .ok (.iinc 2 1, 3) := by decide +kernel
theorem dT_blankLeafAndPath_22 : decode prog_7_method_9_code 22 = .ok (.goto (-20), 3) := by decide +kernel
theorem dT_blankLeafAndPath_25 : decode prog_7_method_9_code 25 = .ok (.return_, 1) := by decide +kernel
theorem dT_blank_0 : decode prog_7_method_8_code 0 = .ok (.aload_n 0, 1) := by decide +kernel
theorem dT_blank_1 : decode prog_7_method_8_code 1 = .ok (.iload_n 1, 1) := by decide +kernel
theorem dT_blank_2 : decode prog_7_method_8_code 2 = .ok (.iconst (-1), 1) := by decide +kernel
theorem dT_blank_3 : decode prog_7_method_8_code 3 = .ok (.iconst (-1), 1) := by decide +kernel
theorem dT_blank_4 : decode prog_7_method_8_code 4 = .ok (.invokevirtual 39, 3) := by decide +kernel
theorem dT_blank_7 : decode prog_7_method_8_code 7 = .ok (.return_, 1) := by decide +kernel
theorem dT_shrink_0 : decode prog_7_method_11_code 0 = .ok (.aload_n 0, 1) := by decide +kernel
theorem dT_shrink_1 : decode prog_7_method_11_code 1 = .ok (.getfield 27, 3) := by decide +kernel
theorem dT_shrink_4 : decode prog_7_method_11_code 4 = .ok (.ifCond .le 64, 3) := by decide +kernel
theorem dT_shrink_7 : decode prog_7_method_11_code 7 = .ok (.aload_n 0, 1) := by decide +kernel
theorem dT_shrink_8 : decode prog_7_method_11_code 8 = .ok (.iconst 1, 1) := by decide +kernel
theorem dT_shrink_9 : decode prog_7_method_11_code 9 = .ok (.aload_n 0, 1) := by decide +kernel
theorem dT_shrink_10 : decode prog_7_method_11_code 10 = .ok (.getfield 27, 3) := by decide +kernel
theorem dT_shrink_13 : decode prog_7_method_11_code 13 = .ok (.iconst 1, 1) := by decide +kernel
theorem dT_shrink_14 : decode prog_7_method_11_code 14 = .ok (.isub, 1) := by decide +kernel
theorem dT_shrink_15 : decode prog_7_method_11_code 15 = .ok (.ishl, 1) := by decide +kernel
theorem dT_shrink_16 : decode prog_7_method_11_code 16 = .ok (.invokevirtual 58, 3) := by decide +kernel
theorem dT_shrink_19 : decode prog_7_method_11_code 19 = .ok (.iconst (-1), 1) := by decide +kernel
theorem dT_shrink_20 : decode prog_7_method_11_code 20 = .ok (.if_icmp .ne 48, 3) := by decide +kernel
theorem dT_shrink_23 : decode prog_7_method_11_code 23 = .ok (.iconst 1, 1) := by decide +kernel
theorem dT_shrink_24 : decode prog_7_method_11_code 24 = .ok (.aload_n 0, 1) := by decide +kernel
theorem dT_shrink_25 : decode prog_7_method_11_code 25 = .ok (.getfield 27, 3) := by decide +kernel
theorem dT_shrink_28 : decode prog_7_method_11_code 28 = .ok (.ishl, 1) := by decide +kernel
theorem dT_shrink_29 : decode prog_7_method_11_code 29 = .ok (.iconst 1, 1) := by decide +kernel
theorem dT_shrink_30 : decode prog_7_method_11_code 30 = .ok (.isub, 1) := by decide +kernel
theorem dT_shrink_31 : decode prog_7_method_11_code 31 = .ok (.istore_n 1, 1) := by decide +kernel
theorem dT_shrink_32 : decode prog_7_method_11_code 32 = .ok (.iload_n 1, 1) := by decide +kernel
theorem dT_shrink_33 : decode prog_7_method_11_code 33 = .ok (.iconst 2, 1) := by decide +kernel
theorem dT_shrink_34 : decode prog_7_method_11_code 34 = .ok (.aload_n 0, 1) := by decide +kernel
theorem dT_shrink_35 : decode prog_7_method_11_code 35 = .ok (.getfield 27, 3) := by decide +kernel
theorem dT_shrink_38 : decode prog_7_method_11_code 38 = .ok (.ishl, 1) := by decide +kernel
theorem dT_shrink_39 : decode prog_7_method_11_code 39 = .ok (.iconst 1, 1) := by decide +kernel
theorem dT_shrink_40 : decode prog_7_method_11_code 40 = .ok (.isub, 1) := by decide +kernel
theorem dT_shrink_41 : decode prog_7_method_11_code 41 = .ok (.if_icmp .ge 14, 3) := by decide +kernel
theorem dT_shrink_44 : decode prog_7_method_11_code 44 = .ok (.aload_n 0, 1) := by decide +kernel
theorem dT_shrink_45 : decode prog_7_method_11_code 45 = .ok (.iload_n 1, 1) := by decide +kernel
theorem dT_shrink_46 : decode prog_7_method_11_code 46 = .ok (.invokevirtual 47, 3) := by decide +kernel
theorem dT_shrink_49 : decode prog_7_method_11_code 49 = .ok (.iinc 1 1, 3) := by decide +kernel
theorem dT_shrink_52 : decode prog_7_method_11_code 52 = .ok (.goto (-20), 3) := by decide +kernel
theorem dT_shrink_55 : decode prog_7_method_11_code 55 = .ok (.aload_n 0, 1) := by decide +kernel
theorem dT_shrink_56 : decode prog_7_method_11_code 56 = .ok (.dup, 1) := by decide +kernel
theorem dT_shrink_57 : decode prog_7_method_11_code 57 = .ok (.getfield 27, 3) := by decide +kernel
theorem dT_shrink_60 : decode prog_7_method_11_code 60 = .ok (.iconst 1, 1) := by decide +kernel
theorem dT_shrink_61 : decode prog_7_method_11_code 61 = .ok (.isub, 1) := by decide +kernel
theorem dT_shrink_62 : decode prog_7_method_11_code 62 = .ok (.putfield 27, 3) := by decide +kernel
theorem dT_shrink_65 : decode prog_7_method_11_code 65 = .ok (.goto (-65), 3) := by decide +kernel
theorem dT_shrink_68 : decode prog_7_method_11_code 68 = .ok (.return_, 1) := by decide +kernel
theorem dT_firstLeafWithKey_0 : decode prog_7_method_12_code 0 = .ok (.iload_n 1, 1) := by decide +kernel
theorem dT_firstLeafWithKey_1 : decode prog_7_method_12_code 1 = .ok (.istore_n 2, 1) := by decide +kernel
theorem dT_firstLeafWithKey_2 : decode prog_7_method_12_code 2 = .ok (.iload_n 2, 1) := by decide +kernel
theorem dT_firstLeafWithKey_3 : decode prog_7_method_12_code 3 = .ok (.iconst 1, 1) := by decide +kernel
theorem dT_firstLeafWithKey_4 : decode prog_7_method_12_code 4 = .ok (.aload_n 0, 1) := by decide +kernel
theorem dT_firstLeafWithKey_5 : decode prog_7_method_12_code 5 = .ok (.getfield 27, 3) := by decide +kernel
theorem dT_firstLeafWithKey_8 : decode prog_7_method_12_code 8 = .ok (.ishl, 1) := by decide +kernel
theorem dT_firstLeafWithKey_9 : decode prog_7_method_12_code 9 = .ok (.if_icmp .ge 23, 3) := by decide +kernel
theorem dT_firstLeafWithKey_12 : decode prog_7_method_12_code 12 = .ok (.aload_n 0, 1) := by decide +kernel
theorem dT_firstLeafWithKey_13 : decode prog_7_method_12_code 13 = .ok (.iload_n 2, 1) := by decide +kernel
theorem dT_firstLeafWithKey_14 : decode prog_7_method_12_code 14 = .ok (.invokestatic 61, 3) := by decide +kernel
theorem dT_firstLeafWithKey_17 : decode prog_7_method_12_code 17 = .ok (.invokevirtual 51, 3) := by decide +kernel
theorem dT_firstLeafWithKey_20 : decode prog_7_method_12_code 20 = .ok (.iconst (-1), 1) := by decide +kernel
theorem dT_firstLeafWithKey_21 : decode prog_7_method_12_code 21 = .ok (.if_icmp .eq 5, 3) := by decide +kernel
theorem dT_firstLeafWithKey_24 : decode prog_7_method_12_code 24 = .ok (.iload_n 2, 1) := by decide +kernel
theorem dT_firstLeafWithKey_25 : decode prog_7_method_12_code 25 = .ok (.ireturn, 1) := by decide +kernel
theorem dT_firstLeafWithKey_26 : decode prog_7_method_12_code 26 = .ok (.iinc 2 1, 3) := by decide +kernel
theorem dT_firstLeafWithKey_29 : decode prog_7_method_12_code 29 = .ok (.goto (-27), 3) := by decide +kernel
theorem dT_firstLeafWithKey_32 : decode prog_7_method_12_code 32 = .ok (.iconst (-1), 1) := by decide +kernel
theorem dT_firstLeafWithKey_33 : decode prog_7_method_12_code 33 = .ok (.ireturn, 1) := by decide +kernel
theorem dT_makeRoom_0 : decode prog_7_method_13_code 0 = .ok (.iconst 0, 1) := by decide +kernel
theorem dT_makeRoom_1 : decode prog_7_method_13_code 1 = .ok (.istore_n 1, 1) := by decide +kernel
theorem dT_makeRoom_2 : decode prog_7_method_13_code 2 = .ok (.iload_n 1, 1) := by decide +kernel
theorem dT_makeRoom_3 : decode prog_7_method_13_code 3 = .ok (.iconst 1, 1) := by decide +kernel
theorem dT_makeRoom_4 : decode prog_7_method_13_code 4 = .ok (.aload_n 0, 1) := by decide +kernel
theorem dT_makeRoom_5 : decode prog_7_method_13_code 5 = .ok (.getfield 27, 3) := by decide +kernel
theorem dT_makeRoom_8 : decode prog_7_method_13_code 8 = .ok (.ishl, 1) := by decide +kernel
theorem dT_makeRoom_9 : decode prog_7_method_13_code 9 = .ok (.if_icmp .ge 23, 3) := by decide +kernel
theorem dT_makeRoom_12 : decode prog_7_method_13_code 12 = .ok (.aload_n 0, 1) := by decide +kernel
theorem dT_makeRoom_13 : decode prog_7_method_13_code 13 = .ok (.iload_n 1, 1) := by decide +kernel
theorem dT_makeRoom_14 : decode prog_7_method_13_code 14 = .ok (.invokestatic 61, 3) := by decide +kernel
theorem dT_makeRoom_17 : decode prog_7_method_13_code 17 = .ok (.invokevirtual 51, 3) := by decide +kernel
theorem dT_makeRoom_20 : decode prog_7_method_13_code 20 = .ok (.iconst (-1), 1) := by decide +kernel
theorem dT_makeRoom_21 : decode prog_7_method_13_code 21 = .ok (.if_icmp .ne 5, 3) := by decide +kernel
theorem dT_makeRoom_24 : decode prog_7_method_13_code 24 = .ok (.iload_n 1, 1) := by decide +kernel
theorem dT_makeRoom_25 : decode prog_7_method_13_code 25 = .ok (.ireturn, 1) := by decide +kernel
theorem dT_makeRoom_26 : decode prog_7_method_13_code 26 = .ok (.iinc 1 1, 3) := by decide +kernel
theorem dT_makeRoom_29 : decode prog_7_method_13_code 29 = .ok (.goto (-27), 3) := by decide +kernel
theorem dT_makeRoom_32 : decode prog_7_method_13_code 32 = .ok (.aload_n 0, 1) := by decide +kernel
theorem dT_makeRoom_33 : decode prog_7_method_13_code 33 = .ok (.getfield 27, 3) := by decide +kernel
theorem dT_makeRoom_36 : decode prog_7_method_13_code 36 = .ok (.iconst 4, 1) := by decide +kernel
theorem dT_makeRoom_37 : decode prog_7_method_13_code 37 = .ok (.if_icmp .lt 5, 3) := by decide +kernel
theorem dT_makeRoom_40 : decode prog_7_method_13_code 40 = .ok (.iconst (-1), 1) := by decide +kernel
theorem dT_makeRoom_41 : decode prog_7_method_13_code 41 = .ok (.ireturn, 1) := by decide +kernel
theorem dT_makeRoom_42 : decode prog_7_method_13_code 42 = .ok (.aload_n 0, 1) := by decide +kernel
theorem dT_makeRoom_43 : decode prog_7_method_13_code 43 = .ok (.dup, 1) := by decide +kernel
theorem dT_makeRoom_44 : decode prog_7_method_13_code 44 = .ok (.getfield 27, 3) := by decide +kernel
theorem dT_makeRoom_47 : decode prog_7_method_13_code 47 = .ok (.iconst 1, 1) := by decide +kernel
theorem dT_makeRoom_48 : decode prog_7_method_13_code 48 = .ok (.iadd, 1) := by decide +kernel
theorem dT_makeRoom_49 : decode prog_7_method_13_code 49 = .ok (.putfield 27, 3) := by decide +kernel
theorem dT_makeRoom_52 : decode prog_7_method_13_code 52 = .ok (.iconst 1, 1) := by decide +kernel
theorem dT_makeRoom_53 : decode prog_7_method_13_code 53 = .ok (.aload_n 0, 1) := by decide +kernel
theorem dT_makeRoom_54 : decode prog_7_method_13_code 54 = .ok (.getfield 27, 3) := by decide +kernel
theorem dT_makeRoom_57 : decode prog_7_method_13_code 57 = .ok (.iconst 1, 1) := by decide +kernel
theorem dT_makeRoom_58 : decode prog_7_method_13_code 58 = .ok (.isub, 1) := by decide +kernel
theorem dT_makeRoom_59 : decode prog_7_method_13_code 59 = .ok (.ishl, 1) := by decide +kernel
theorem dT_makeRoom_60 : decode prog_7_method_13_code 60 = .ok (.ireturn, 1) := by decide +kernel
theorem dT_markUnmerged_0 : decode prog_7_method_10_code 0 = .ok (.iconst 1, 1) := by decide +kernel
theorem dT_markUnmerged_1 : decode prog_7_method_10_code 1 = .ok (.istore_n 2, 1) := by decide +kernel
theorem dT_markUnmerged_2 : decode prog_7_method_10_code 2 = .ok (.iload_n 2, 1) := by decide +kernel
theorem dT_markUnmerged_3 : decode prog_7_method_10_code 3 = .ok (.aload_n 0, 1) := by decide +kernel
theorem dT_markUnmerged_4 : decode prog_7_method_10_code 4 = .ok (.getfield 27, 3) := by decide +kernel
theorem dT_markUnmerged_7 : decode prog_7_method_10_code 7 = .ok (.if_icmp .gt 37, 3) := by decide +kernel
theorem dT_markUnmerged_10 : decode prog_7_method_10_code 10 = .ok (.iload_n 1, 1) := by decide +kernel
theorem dT_markUnmerged_11 : decode prog_7_method_10_code 11 = .ok (.iload_n 2, 1) := by decide +kernel
theorem dT_markUnmerged_12 : decode prog_7_method_10_code 12 = .ok (.invokestatic 43, 3) := by decide +kernel
theorem dT_markUnmerged_15 : decode prog_7_method_10_code 15 = .ok (.istore_n 3, 1) := by decide +kernel
theorem dT_markUnmerged_16 : decode prog_7_method_10_code 16 = .ok (.aload_n 0, 1) := by decide +kernel
theorem dT_markUnmerged_17 : decode prog_7_method_10_code 17 = .ok (.iload_n 3, 1) := by decide +kernel
theorem dT_markUnmerged_18 : decode prog_7_method_10_code 18 = .ok (.invokevirtual 51, 3) := by decide +kernel
theorem dT_markUnmerged_21 : decode prog_7_method_10_code 21 = .ok (.iconst (-1), 1) := by decide +kernel
theorem dT_markUnmerged_22 : decode prog_7_method_10_code 22 = .ok (.if_icmp .eq 16, 3) := by decide +kernel
theorem dT_markUnmerged_25 : decode prog_7_method_10_code 25 = .ok (.aload_n 0, 1) := by decide +kernel
theorem dT_markUnmerged_26 : decode prog_7_method_10_code 26 = .ok (.getfield 18, 3) := by decide +kernel
theorem dT_markUnmerged_29 : decode prog_7_method_10_code 29 = .ok (.iload_n 3, 1) := by decide +kernel
theorem dT_markUnmerged_30 : decode prog_7_method_10_code 30 = .ok (.dup2, 1) := by decide +kernel
theorem dT_markUnmerged_31 : decode prog_7_method_10_code 31 = .ok (.iaload, 1) := by decide +kernel
theorem dT_markUnmerged_32 : decode prog_7_method_10_code 32 = .ok (.iload_n 1, 1) := by decide +kernel
theorem dT_markUnmerged_33 : decode prog_7_method_10_code 33 = .ok (.invokestatic 55, 3) := by decide +kernel
theorem dT_markUnmerged_36 : decode prog_7_method_10_code 36 = .ok (.ior, 1) := by decide +kernel
theorem dT_markUnmerged_37 : decode prog_7_method_10_code 37 = .ok (.iastore, 1) := by decide +kernel
theorem dT_markUnmerged_38 : decode prog_7_method_10_code 38 = .ok (.iinc 2 1, 3) := by decide +kernel
theorem dT_markUnmerged_41 : decode prog_7_method_10_code 41 = .ok (.goto (-39), 3) := by decide +kernel
theorem dT_markUnmerged_44 : decode prog_7_method_10_code 44 = .ok (.return_, 1) := by decide +kernel
end
section
theorem dK_init_0 : decode prog_3_method_1_code 0 = .ok (.aload_n 0, 1) := by decide +kernel
theorem dK_init_1 : decode prog_3_method_1_code 1 = .ok (.invokespecial 3, 3) := by decide +kernel
theorem dK_init_4 : decode prog_3_method_1_code 4 = .ok (.aload_n 0, 1) := by decide +kernel
theorem dK_init_5 : decode prog_3_method_1_code 5 = .ok (.iconst (-1), 1) := by decide +kernel
theorem dK_init_6 : decode prog_3_method_1_code 6 = .ok (.putfield 9, 3) := by decide +kernel
theorem dK_init_9 : decode prog_3_method_1_code 9 = .ok (.aload_n 0, 1) := by decide +kernel
theorem dK_init_10 : decode prog_3_method_1_code 10 = .ok (.iconst (-1), 1) := by decide +kernel
theorem dK_init_11 : decode prog_3_method_1_code 11 = .ok (.putfield 15, 3) := by decide +kernel
theorem dK_init_14 : decode prog_3_method_1_code 14 = .ok (.aload_n 0, 1) := by decide +kernel
theorem dK_init_15 : decode prog_3_method_1_code 15 = .ok (.iload_n 1, 1) := by decide +kernel
theorem dK_init_16 : decode prog_3_method_1_code 16 = .ok (.putfield 18, 3) := by decide +kernel
theorem dK_init_19 : decode prog_3_method_1_code 19 = .ok (.aload_n 0, 1) := by decide +kernel
theorem dK_init_20 : decode prog_3_method_1_code 20 = .ok (.iload_n 2, 1) := by decide +kernel
theorem dK_init_21 : decode prog_3_method_1_code 21 = .ok (.putfield 21, 3) := by decide +kernel
theorem dK_init_24 : decode prog_3_method_1_code 24 = .ok (.aload_n 0, 1) := by decide +kernel
theorem dK_init_25 : decode prog_3_method_1_code 25 = .ok (.iload_n 3, 1) := by decide +kernel
theorem dK_init_26 : decode prog_3_method_1_code 26 = .ok (.putfield 24, 3) := by decide +kernel
theorem dK_init_29 : decode prog_3_method_1_code 29 = .ok (.return_, 1) := by decide +kernel
end
section
theorem dP_init_0 : decode prog_5_method_1_code 0 = .ok (.aload_n 0, 1) := by decide +kernel
theorem dP_init_1 : decode prog_5_method_1_code 1 = .ok (.invokespecial 1, 3) := by decide +kernel
theorem dP_init_4 : decode prog_5_method_1_code 4 = .ok (.aload_n 0, 1) := by decide +kernel
theorem dP_init_5 : decode prog_5_method_1_code 5 = .ok (.iload_n 1, 1) := by decide +kernel
theorem dP_init_6 : decode prog_5_method_1_code 6 = .ok (.putfield 7, 3) := by decide +kernel
theorem dP_init_9 : decode prog_5_method_1_code 9 = .ok (.aload_n 0, 1) := by decide +kernel
theorem dP_init_10 : decode prog_5_method_1_code 10 = .ok (.iload_n 2, 1) := by decide +kernel
theorem dP_init_11 : decode prog_5_method_1_code 11 = .ok (.putfield 13, 3) := by decide +kernel
theorem dP_init_14 : decode prog_5_method_1_code 14 = .ok (.aload_n 0, 1) := by decide +kernel
theorem dP_init_15 : decode prog_5_method_1_code 15 = .ok (.iload_n 3, 1) := by decide +kernel
theorem dP_init_16 : decode prog_5_method_1_code 16 = .ok (.putfield 16, 3) := by decide +kernel
theorem dP_init_19 : decode prog_5_method_1_code 19 = .ok (.return_, 1) := by decide +kernel
end
section
theorem dR_init_0 : decode prog_9_method_1_code 0 = .ok (.aload_n 0, 1) := by decide +kernel
theorem dR_init_1 : decode prog_9_method_1_code 1 = .ok (.invokespecial 1, 3) := by decide +kernel
theorem dR_init_4 : decode prog_9_method_1_code 4 = .ok (.aload_n 0, 1) := by decide +kernel
theorem dR_init_5 : decode prog_9_method_1_code 5 = .ok (.sipush 2600, 3) := by decide +kernel
theorem dR_init_8 : decode prog_9_method_1_code 8 = .ok (.newarray .int, 2) := by decide +kernel
theorem dR_init_10 : decode prog_9_method_1_code 10 = .ok (.putfield 7, 3) := by decide +kernel
theorem dR_init_13 : decode prog_9_method_1_code 13 = .ok (.aload_n 0, 1) := by decide +kernel
theorem dR_init_14 : decode prog_9_method_1_code 14 = .ok (.sipush 2600, 3) := by decide +kernel
theorem dR_init_17 : decode prog_9_method_1_code 17 = .ok (.newarray .int, 2) := by decide +kernel
theorem dR_init_19 : decode prog_9_method_1_code 19 = .ok (.putfield 13, 3) := by decide +kernel
theorem dR_init_22 : decode prog_9_method_1_code 22 = .ok (.aload_n 0, 1) := by decide +kernel
theorem dR_init_23 : decode prog_9_method_1_code 23 = .ok (.sipush 2600, 3) := by decide +kernel
theorem dR_init_26 : decode prog_9_method_1_code 26 = .ok (.newarray .int, 2) := by decide +kernel
theorem dR_init_28 : decode prog_9_method_1_code 28 = .ok (.putfield 16, 3) := by decide +kernel
theorem dR_init_31 : decode prog_9_method_1_code 31 = .ok (.aload_n 0, 1) := by decide +kernel
theorem dR_init_32 : decode prog_9_method_1_code 32 = .ok (.sipush 2600, 3) := by decide +kernel
theorem dR_init_35 : decode prog_9_method_1_code 35 = .ok (.newarray .boolean, 2) := by decide +kernel
theorem dR_init_37 : decode prog_9_method_1_code 37 = .ok (.putfield 19, 3) := by decide +kernel
theorem dR_init_40 : decode prog_9_method_1_code 40 = .ok (.aload_n 0, 1) := by decide +kernel
theorem dR_init_41 : decode prog_9_method_1_code 41 = .ok (.sipush 2600, 3) := by decide +kernel
theorem dR_init_44 : decode prog_9_method_1_code 44 = .ok (.newarray .boolean, 2) := by decide +kernel
theorem dR_init_46 : decode prog_9_method_1_code 46 = .ok (.putfield 23, 3) := by decide +kernel
theorem dR_init_49 : decode prog_9_method_1_code 49 = .ok (.aload_n 0, 1) := by decide +kernel
theorem dR_init_50 : decode prog_9_method_1_code 50 = .ok (.sipush 3600, 3) := by decide +kernel
theorem dR_init_53 : decode prog_9_method_1_code 53 = .ok (.newarray .int, 2) := by decide +kernel
theorem dR_init_55 : decode prog_9_method_1_code 55 = .ok (.putfield 26, 3) := by decide +kernel
theorem dR_init_58 : decode prog_9_method_1_code 58 = .ok (.aload_n 0, 1) := by decide +kernel
theorem dR_init_59 : decode prog_9_method_1_code 59 = .ok (.sipush 3600, 3) := by decide +kernel
theorem dR_init_62 : decode prog_9_method_1_code 62 = .ok (.newarray .int, 2) := by decide +kernel
theorem dR_init_64 : decode prog_9_method_1_code 64 = .ok (.putfield 29, 3) := by decide +kernel
theorem dR_init_67 : decode prog_9_method_1_code 67 = .ok (.aload_n 0, 1) := by decide +kernel
theorem dR_init_68 : decode prog_9_method_1_code 68 = .ok (.sipush 3600, 3) := by decide +kernel
theorem dR_init_71 : decode prog_9_method_1_code 71 = .ok (.newarray .int, 2) := by decide +kernel
theorem dR_init_73 : decode prog_9_method_1_code 73 = .ok (.putfield 32, 3) := by decide +kernel
theorem dR_init_76 : decode prog_9_method_1_code 76 = .ok (.aload_n 0, 1) := by decide +kernel
theorem dR_init_77 : decode prog_9_method_1_code 77 = .ok (.sipush 3600, 3) := by decide +kernel
theorem dR_init_80 : decode prog_9_method_1_code 80 = .ok (.newarray .int, 2) := by decide +kernel
theorem dR_init_82 : decode prog_9_method_1_code 82 = .ok (.putfield 35, 3) := by decide +kernel
theorem dR_init_85 : decode prog_9_method_1_code 85 = .ok (.aload_n 0, 1) := by decide +kernel
theorem dR_init_86 : decode prog_9_method_1_code 86 = .ok (.bipush 60, 2) := by decide +kernel
theorem dR_init_88 : decode prog_9_method_1_code 88 = .ok (.newarray .int, 2) := by decide +kernel
theorem dR_init_90 : decode prog_9_method_1_code 90 = .ok (.putfield 38, 3) := by decide +kernel
theorem dR_init_93 : decode prog_9_method_1_code 93 = .ok (.aload_n 0, 1) := by decide +kernel
theorem dR_init_94 : decode prog_9_method_1_code 94 = .ok (.bipush 60, 2) := by decide +kernel
theorem dR_init_96 : decode prog_9_method_1_code 96 = .ok (.newarray .int, 2) := by decide +kernel
theorem dR_init_98 : decode prog_9_method_1_code 98 = .ok (.putfield 41, 3) := by decide +kernel
theorem dR_init_101 : decode prog_9_method_1_code 101 = .ok (.aload_n 0, 1) := by decide +kernel
theorem dR_init_102 : decode prog_9_method_1_code 102 = .ok (.bipush 60, 2) := by decide +kernel
theorem dR_init_104 : decode prog_9_method_1_code 104 = .ok (.newarray .int, 2) := by decide +kernel
theorem dR_init_106 : decode prog_9_method_1_code 106 = .ok (.putfield 44, 3) := by decide +kernel
theorem dR_init_109 : decode prog_9_method_1_code 109 = .ok (.aload_n 0, 1) := by decide +kernel
theorem dR_init_110 : decode prog_9_method_1_code 110 = .ok (.bipush 60, 2) := by decide +kernel
theorem dR_init_112 : decode prog_9_method_1_code 112 = .ok (.newarray .int, 2) := by decide +kernel
theorem dR_init_114 : decode prog_9_method_1_code 114 = .ok (.putfield 47, 3) := by decide +kernel
theorem dR_init_117 : decode prog_9_method_1_code 117 = .ok (.aload_n 0, 1) := by decide +kernel
theorem dR_init_118 : decode prog_9_method_1_code 118 = .ok (.bipush 60, 2) := by decide +kernel
theorem dR_init_120 : decode prog_9_method_1_code 120 = .ok (.newarray .int, 2) := by decide +kernel
theorem dR_init_122 : decode prog_9_method_1_code 122 = .ok (.putfield 50, 3) := by decide +kernel
theorem dR_init_125 : decode prog_9_method_1_code 125 = .ok (.aload_n 0, 1) := by decide +kernel
theorem dR_init_126 : decode prog_9_method_1_code 126 = .ok (.bipush 60, 2) := by decide +kernel
theorem dR_init_128 : decode prog_9_method_1_code 128 = .ok (.newarray .int, 2) := by decide +kernel
theorem dR_init_130 : decode prog_9_method_1_code 130 = .ok (.putfield 53, 3) := by decide +kernel
theorem dR_init_133 : decode prog_9_method_1_code 133 = .ok (.aload_n 0, 1) := by decide +kernel
theorem dR_init_134 : decode prog_9_method_1_code 134 = .ok (.bipush 60, 2) := by decide +kernel
theorem dR_init_136 : decode prog_9_method_1_code 136 = .ok (.newarray .int, 2) := by decide +kernel
theorem dR_init_138 : decode prog_9_method_1_code 138 = .ok (.putfield 56, 3) := by decide +kernel
theorem dR_init_141 : decode prog_9_method_1_code 141 = .ok (.aload_n 0, 1) := by decide +kernel
theorem dR_init_142 : decode prog_9_method_1_code 142 = .ok (.bipush 60, 2) := by decide +kernel
theorem dR_init_144 : decode prog_9_method_1_code 144 = .ok (.newarray .int, 2) := by decide +kernel
theorem dR_init_146 : decode prog_9_method_1_code 146 = .ok (.putfield 59, 3) := by decide +kernel
theorem dR_init_149 : decode prog_9_method_1_code 149 = .ok (.aload_n 0, 1) := by decide +kernel
theorem dR_init_150 : decode prog_9_method_1_code 150 = .ok (.bipush 60, 2) := by decide +kernel
theorem dR_init_152 : decode prog_9_method_1_code 152 = .ok (.newarray .boolean, 2) := by decide +kernel
theorem dR_init_154 : decode prog_9_method_1_code 154 = .ok (.putfield 62, 3) := by decide +kernel
theorem dR_init_157 : decode prog_9_method_1_code 157 = .ok (.aload_n 0, 1) := by decide +kernel
theorem dR_init_158 : decode prog_9_method_1_code 158 = .ok (.sipush 1860, 3) := by decide +kernel
theorem dR_init_161 : decode prog_9_method_1_code 161 = .ok (.newarray .int, 2) := by decide +kernel
theorem dR_init_163 : decode prog_9_method_1_code 163 = .ok (.putfield 65, 3) := by decide +kernel
theorem dR_init_166 : decode prog_9_method_1_code 166 = .ok (.aload_n 0, 1) := by decide +kernel
theorem dR_init_167 : decode prog_9_method_1_code 167 = .ok (.sipush 1860, 3) := by decide +kernel
theorem dR_init_170 : decode prog_9_method_1_code 170 = .ok (.newarray .int, 2) := by decide +kernel
theorem dR_init_172 : decode prog_9_method_1_code 172 = .ok (.putfield 68, 3) := by decide +kernel
theorem dR_init_175 : decode prog_9_method_1_code 175 = .ok (.aload_n 0, 1) := by decide +kernel
theorem dR_init_176 : decode prog_9_method_1_code 176 = .ok (.sipush 1860, 3) := by decide +kernel
theorem dR_init_179 : decode prog_9_method_1_code 179 = .ok (.newarray .int, 2) := by decide +kernel
theorem dR_init_181 : decode prog_9_method_1_code 181 = .ok (.putfield 71, 3) := by decide +kernel
theorem dR_init_184 : decode prog_9_method_1_code 184 = .ok (.aload_n 0, 1) := by decide +kernel
theorem dR_init_185 : decode prog_9_method_1_code 185 = .ok (.sipush 1860, 3) := by decide +kernel
theorem dR_init_188 : decode prog_9_method_1_code 188 = .ok (.newarray .int, 2) := by decide +kernel
theorem dR_init_190 : decode prog_9_method_1_code 190 = .ok (.putfield 74, 3) := by decide +kernel
theorem dR_init_193 : decode prog_9_method_1_code 193 = .ok (.aload_n 0, 1) := by decide +kernel
theorem dR_init_194 : decode prog_9_method_1_code 194 = .ok (.sipush 960, 3) := by decide +kernel
theorem dR_init_197 : decode prog_9_method_1_code 197 = .ok (.newarray .int, 2) := by decide +kernel
theorem dR_init_199 : decode prog_9_method_1_code 199 = .ok (.putfield 77, 3) := by decide +kernel
theorem dR_init_202 : decode prog_9_method_1_code 202 = .ok (.aload_n 0, 1) := by decide +kernel
theorem dR_init_203 : decode prog_9_method_1_code 203 = .ok (.bipush 16, 2) := by decide +kernel
theorem dR_init_205 : decode prog_9_method_1_code 205 = .ok (.newarray .int, 2) := by decide +kernel
theorem dR_init_207 : decode prog_9_method_1_code 207 = .ok (.putfield 80, 3) := by decide +kernel
theorem dR_init_210 : decode prog_9_method_1_code 210 = .ok (.aload_n 0, 1) := by decide +kernel
theorem dR_init_211 : decode prog_9_method_1_code 211 = .ok (.bipush 16, 2) := by decide +kernel
theorem dR_init_213 : decode prog_9_method_1_code 213 = .ok (.newarray .int, 2) := by decide +kernel
theorem dR_init_215 : decode prog_9_method_1_code 215 = .ok (.putfield 83, 3) := by decide +kernel
theorem dR_init_218 : decode prog_9_method_1_code 218 = .ok (.aload_n 0, 1) := by decide +kernel
theorem dR_init_219 : decode prog_9_method_1_code 219 = .ok (.bipush 16, 2) := by decide +kernel
theorem dR_init_221 : decode prog_9_method_1_code 221 = .ok (.newarray .int, 2) := by decide +kernel
theorem dR_init_223 : decode prog_9_method_1_code 223 = .ok (.putfield 86, 3) := by decide +kernel
theorem dR_init_226 : decode prog_9_method_1_code 226 = .ok (.aload_n 0, 1) := by decide +kernel
theorem dR_init_227 : decode prog_9_method_1_code 227 = .ok (.bipush 16, 2) := by decide +kernel
theorem dR_init_229 : decode prog_9_method_1_code 229 = .ok (.newarray .int, 2) := by decide +kernel
theorem dR_init_231 : decode prog_9_method_1_code 231 = .ok (.putfield 89, 3) := by decide +kernel
theorem dR_init_234 : decode prog_9_method_1_code 234 = .ok (.aload_n 0, 1) := by decide +kernel
theorem dR_init_235 : decode prog_9_method_1_code 235 = .ok (.bipush 16, 2) := by decide +kernel
theorem dR_init_237 : decode prog_9_method_1_code 237 = .ok (.newarray .int, 2) := by decide +kernel
theorem dR_init_239 : decode prog_9_method_1_code 239 = .ok (.putfield 92, 3) := by decide +kernel
theorem dR_init_242 : decode prog_9_method_1_code 242 = .ok (.aload_n 0, 1) := by decide +kernel
theorem dR_init_243 : decode prog_9_method_1_code 243 = .ok (.bipush 16, 2) := by decide +kernel
theorem dR_init_245 : decode prog_9_method_1_code 245 = .ok (.newarray .boolean, 2) := by decide +kernel
theorem dR_init_247 : decode prog_9_method_1_code 247 = .ok (.putfield 95, 3) := by decide +kernel
theorem dR_init_250 : decode prog_9_method_1_code 250 = .ok (.aload_n 0, 1) := by decide +kernel
theorem dR_init_251 : decode prog_9_method_1_code 251 = .ok (.sipush 496, 3) := by decide +kernel
theorem dR_init_254 : decode prog_9_method_1_code 254 = .ok (.newarray .int, 2) := by decide +kernel
theorem dR_init_256 : decode prog_9_method_1_code 256 = .ok (.putfield 98, 3) := by decide +kernel
theorem dR_init_259 : decode prog_9_method_1_code 259 = .ok (.aload_n 0, 1) := by decide +kernel
theorem dR_init_260 : decode prog_9_method_1_code 260 = .ok (.sipush 320, 3) := by decide +kernel
theorem dR_init_263 : decode prog_9_method_1_code 263 = .ok (.newarray .int, 2) := by decide +kernel
theorem dR_init_265 : decode prog_9_method_1_code 265 = .ok (.putfield 101, 3) := by decide +kernel
theorem dR_init_268 : decode prog_9_method_1_code 268 = .ok (.aload_n 0, 1) := by decide +kernel
theorem dR_init_269 : decode prog_9_method_1_code 269 = .ok (.bipush 60, 2) := by decide +kernel
theorem dR_init_271 : decode prog_9_method_1_code 271 = .ok (.newarray .int, 2) := by decide +kernel
theorem dR_init_273 : decode prog_9_method_1_code 273 = .ok (.putfield 104, 3) := by decide +kernel
theorem dR_init_276 : decode prog_9_method_1_code 276 = .ok (.aload_n 0, 1) := by decide +kernel
theorem dR_init_277 : decode prog_9_method_1_code 277 = .ok (.bipush 60, 2) := by decide +kernel
theorem dR_init_279 : decode prog_9_method_1_code 279 = .ok (.newarray .int, 2) := by decide +kernel
theorem dR_init_281 : decode prog_9_method_1_code 281 = .ok (.putfield 107, 3) := by decide +kernel
theorem dR_init_284 : decode prog_9_method_1_code 284 = .ok (.aload_n 0, 1) := by decide +kernel
theorem dR_init_285 : decode prog_9_method_1_code 285 = .ok (.bipush 60, 2) := by decide +kernel
theorem dR_init_287 : decode prog_9_method_1_code 287 = .ok (.newarray .int, 2) := by decide +kernel
theorem dR_init_289 : decode prog_9_method_1_code 289 = .ok (.putfield 110, 3) := by decide +kernel
theorem dR_init_292 : decode prog_9_method_1_code 292 = .ok (.aload_n 0, 1) := by decide +kernel
theorem dR_init_293 : decode prog_9_method_1_code 293 = .ok (.bipush 60, 2) := by decide +kernel
theorem dR_init_295 : decode prog_9_method_1_code 295 = .ok (.newarray .int, 2) := by decide +kernel
theorem dR_init_297 : decode prog_9_method_1_code 297 = .ok (.putfield 113, 3) := by decide +kernel
theorem dR_init_300 : decode prog_9_method_1_code 300 = .ok (.aload_n 0, 1) := by decide +kernel
theorem dR_init_301 : decode prog_9_method_1_code 301 = .ok (.bipush 60, 2) := by decide +kernel
theorem dR_init_303 : decode prog_9_method_1_code 303 = .ok (.newarray .int, 2) := by decide +kernel
theorem dR_init_305 : decode prog_9_method_1_code 305 = .ok (.putfield 116, 3) := by decide +kernel
theorem dR_init_308 : decode prog_9_method_1_code 308 = .ok (.aload_n 0, 1) := by decide +kernel
theorem dR_init_309 : decode prog_9_method_1_code 309 = .ok (.bipush 60, 2) := by decide +kernel
theorem dR_init_311 : decode prog_9_method_1_code 311 = .ok (.newarray .boolean, 2) := by decide +kernel
theorem dR_init_313 : decode prog_9_method_1_code 313 = .ok (.putfield 119, 3) := by decide +kernel
theorem dR_init_316 : decode prog_9_method_1_code 316 = .ok (.aload_n 0, 1) := by decide +kernel
theorem dR_init_317 : decode prog_9_method_1_code 317 = .ok (.bipush 20, 2) := by decide +kernel
theorem dR_init_319 : decode prog_9_method_1_code 319 = .ok (.newarray .int, 2) := by decide +kernel
theorem dR_init_321 : decode prog_9_method_1_code 321 = .ok (.putfield 122, 3) := by decide +kernel
theorem dR_init_324 : decode prog_9_method_1_code 324 = .ok (.aload_n 0, 1) := by decide +kernel
theorem dR_init_325 : decode prog_9_method_1_code 325 = .ok (.bipush 20, 2) := by decide +kernel
theorem dR_init_327 : decode prog_9_method_1_code 327 = .ok (.newarray .int, 2) := by decide +kernel
theorem dR_init_329 : decode prog_9_method_1_code 329 = .ok (.putfield 125, 3) := by decide +kernel
theorem dR_init_332 : decode prog_9_method_1_code 332 = .ok (.aload_n 0, 1) := by decide +kernel
theorem dR_init_333 : decode prog_9_method_1_code 333 = .ok (.bipush 20, 2) := by decide +kernel
theorem dR_init_335 : decode prog_9_method_1_code 335 = .ok (.newarray .int, 2) := by decide +kernel
theorem dR_init_337 : decode prog_9_method_1_code 337 = .ok (.putfield 128, 3) := by decide +kernel
theorem dR_init_340 : decode prog_9_method_1_code 340 = .ok (.aload_n 0, 1) := by decide +kernel
theorem dR_init_341 : decode prog_9_method_1_code 341 = .ok (.sipush 256, 3) := by decide +kernel
theorem dR_init_344 : decode prog_9_method_1_code 344 = .ok (.newarray .int, 2) := by decide +kernel
theorem dR_init_346 : decode prog_9_method_1_code 346 = .ok (.putfield 131, 3) := by decide +kernel
theorem dR_init_349 : decode prog_9_method_1_code 349 = .ok (.aload_n 0, 1) := by decide +kernel
theorem dR_init_350 : decode prog_9_method_1_code 350 = .ok (.bipush 32, 2) := by decide +kernel
theorem dR_init_352 : decode prog_9_method_1_code 352 = .ok (.newarray .int, 2) := by decide +kernel
theorem dR_init_354 : decode prog_9_method_1_code 354 = .ok (.putfield 134, 3) := by decide +kernel
theorem dR_init_357 : decode prog_9_method_1_code 357 = .ok (.aload_n 0, 1) := by decide +kernel
theorem dR_init_358 : decode prog_9_method_1_code 358 = .ok (.bipush 32, 2) := by decide +kernel
theorem dR_init_360 : decode prog_9_method_1_code 360 = .ok (.newarray .int, 2) := by decide +kernel
theorem dR_init_362 : decode prog_9_method_1_code 362 = .ok (.putfield 137, 3) := by decide +kernel
theorem dR_init_365 : decode prog_9_method_1_code 365 = .ok (.aload_n 0, 1) := by decide +kernel
theorem dR_init_366 : decode prog_9_method_1_code 366 = .ok (.bipush 16, 2) := by decide +kernel
theorem dR_init_368 : decode prog_9_method_1_code 368 = .ok (.newarray .int, 2) := by decide +kernel
theorem dR_init_370 : decode prog_9_method_1_code 370 = .ok (.putfield 140, 3) := by decide +kernel
theorem dR_init_373 : decode prog_9_method_1_code 373 = .ok (.aload_n 0, 1) := by decide +kernel
theorem dR_init_374 : decode prog_9_method_1_code 374 = .ok (.iconst 0, 1) := by decide +kernel
theorem dR_init_375 : decode prog_9_method_1_code 375 = .ok (.iconst 0, 1) := by decide +kernel
theorem dR_init_376 : decode prog_9_method_1_code 376 = .ok (.iconst 0, 1) := by decide +kernel
theorem dR_init_377 : decode prog_9_method_1_code 377 = .ok (.invokevirtual 143, 3) := by decide +kernel
theorem dR_init_380 : decode prog_9_method_1_code 380 = .ok (.pop, 1) := by decide +kernel
theorem dR_init_381 : decode prog_9_method_1_code 381 = .ok (.iconst 0, 1) := by decide +kernel
theorem dR_init_382 : decode prog_9_method_1_code 382 = .ok (.istore_n 1, 1) := by decide +kernel
theorem dR_init_383 : decode prog_9_method_1_code 383 = .ok (.iload_n 1, 1) := by decide +kernel
theorem dR_init_384 : decode prog_9_method_1_code 384 = .ok (.bipush 16, 2) := by decide +kernel
theorem dR_init_386 : decode prog_9_method_1_code 386 = .ok (.if_icmp .ge 14, 3) := by decide +kernel
theorem dR_init_389 : decode prog_9_method_1_code 389 = .ok (.aload_n 0, 1) := by decide +kernel
theorem dR_init_390 : decode prog_9_method_1_code 390 = .ok (.iload_n 1, 1) := by decide +kernel
theorem dR_init_391 : decode prog_9_method_1_code 391 = .ok (.invokevirtual 147, 3) := by decide +kernel
theorem dR_init_394 : decode prog_9_method_1_code 394 = .ok (.iinc 1 1, 3) := by decide +kernel
theorem dR_init_397 : decode prog_9_method_1_code 397 = .ok (.goto (-14), 3) := by decide +kernel
theorem dR_init_400 : decode prog_9_method_1_code 400 = .ok (.iconst 0, 1) := by decide +kernel
theorem dR_init_401 : decode prog_9_method_1_code 401 = .ok (.istore_n 1, 1) := by decide +kernel
theorem dR_init_402 : decode prog_9_method_1_code 402 = .ok (.iload_n 1, 1) := by decide +kernel
theorem dR_init_403 : decode prog_9_method_1_code 403 = .ok (.sipush 1860, 3) := by decide +kernel
theorem dR_init_406 : decode prog_9_method_1_code 406 = .ok (.if_icmp .ge 16, 3) := by decide +kernel
theorem dR_init_409 : decode prog_9_method_1_code 409 = .ok (.aload_n 0, 1) := by decide +kernel
theorem dR_init_410 : decode prog_9_method_1_code 410 = .ok (.getfield 65, 3) := by decide +kernel
theorem dR_init_413 : decode prog_9_method_1_code 413 = .ok (.iload_n 1, 1) := by decide +kernel
theorem dR_init_414 : decode prog_9_method_1_code 414 = .ok (.iconst (-1), 1) := by decide +kernel
theorem dR_init_415 : decode prog_9_method_1_code 415 = .ok (.iastore, 1) := by decide +kernel
theorem dR_init_416 : decode prog_9_method_1_code 416 = .ok (.iinc 1 1, 3) := by decide +kernel
theorem dR_init_419 : decode prog_9_method_1_code 419 = .ok (.goto (-17), 3) := by decide +kernel
theorem dR_init_422 : decode prog_9_method_1_code 422 = .ok (.iconst 0, 1) := by decide +kernel
theorem dR_init_423 : decode prog_9_method_1_code 423 = .ok (.istore_n 1, 1) := by decide +kernel
theorem dR_init_424 : decode prog_9_method_1_code 424 = .ok (.iload_n 1, 1) := by decide +kernel
theorem dR_init_425 : decode prog_9_method_1_code 425 = .ok (.sipush 960, 3) := by decide +kernel
theorem dR_init_428 : decode prog_9_method_1_code 428 = .ok (.if_icmp .ge 16, 3) := by decide +kernel
theorem dR_init_431 : decode prog_9_method_1_code 431 = .ok (.aload_n 0, 1) := by decide +kernel
theorem dR_init_432 : decode prog_9_method_1_code 432 = .ok (.getfield 77, 3) := by decide +kernel
theorem dR_init_435 : decode prog_9_method_1_code 435 = .ok (.iload_n 1, 1) := by decide +kernel
theorem dR_init_436 : decode prog_9_method_1_code 436 = .ok (.iconst (-1), 1) := by decide +kernel
theorem dR_init_437 : decode prog_9_method_1_code 437 = .ok (.iastore, 1) := by decide +kernel
theorem dR_init_438 : decode prog_9_method_1_code 438 = .ok (.iinc 1 1, 3) := by decide +kernel
theorem dR_init_441 : decode prog_9_method_1_code 441 = .ok (.goto (-17), 3) := by decide +kernel
theorem dR_init_444 : decode prog_9_method_1_code 444 = .ok (.aload_n 0, 1) := by decide +kernel
theorem dR_init_445 : decode prog_9_method_1_code 445 = .ok (.getfield 44, 3) := by decide +kernel
theorem dR_init_448 : decode prog_9_method_1_code 448 = .ok (.iconst 0, 1) := by decide +kernel
theorem dR_init_449 : decode prog_9_method_1_code 449 = .ok (.iconst (-1), 1) := by decide +kernel
theorem dR_init_450 : decode prog_9_method_1_code 450 = .ok (.iastore, 1) := by decide +kernel
theorem dR_init_451 : decode prog_9_method_1_code 451 = .ok (.aload_n 0, 1) := by decide +kernel
theorem dR_init_452 : decode prog_9_method_1_code 452 = .ok (.getfield 77, 3) := by decide +kernel
theorem dR_init_455 : decode prog_9_method_1_code 455 = .ok (.iconst 0, 1) := by decide +kernel
theorem dR_init_456 : decode prog_9_method_1_code 456 = .ok (.iconst 0, 1) := by decide +kernel
theorem dR_init_457 : decode prog_9_method_1_code 457 = .ok (.iastore, 1) := by decide +kernel
theorem dR_init_458 : decode prog_9_method_1_code 458 = .ok (.aload_n 0, 1) := by decide +kernel
theorem dR_init_459 : decode prog_9_method_1_code 459 = .ok (.getfield 65, 3) := by decide +kernel
theorem dR_init_462 : decode prog_9_method_1_code 462 = .ok (.iconst 0, 1) := by decide +kernel
theorem dR_init_463 : decode prog_9_method_1_code 463 = .ok (.aload_n 0, 1) := by decide +kernel
theorem dR_init_464 : decode prog_9_method_1_code 464 = .ok (.iconst 1, 1) := by decide +kernel
theorem dR_init_465 : decode prog_9_method_1_code 465 = .ok (.iconst 0, 1) := by decide +kernel
theorem dR_init_466 : decode prog_9_method_1_code 466 = .ok (.iconst 0, 1) := by decide +kernel
theorem dR_init_467 : decode prog_9_method_1_code 467 = .ok (.invokevirtual 143, 3) := by decide +kernel
theorem dR_init_470 : decode prog_9_method_1_code 470 = .ok (.iastore, 1) := by decide +kernel
theorem dR_init_471 : decode prog_9_method_1_code 471 = .ok (.aload_n 0, 1) := by decide +kernel
theorem dR_init_472 : decode prog_9_method_1_code 472 = .ok (.getfield 41, 3) := by decide +kernel
theorem dR_init_475 : decode prog_9_method_1_code 475 = .ok (.iconst 0, 1) := by decide +kernel
theorem dR_init_476 : decode prog_9_method_1_code 476 = .ok (.aload_n 0, 1) := by decide +kernel
theorem dR_init_477 : decode prog_9_method_1_code 477 = .ok (.iconst 1, 1) := by decide +kernel
theorem dR_init_478 : decode prog_9_method_1_code 478 = .ok (.iconst 0, 1) := by decide +kernel
theorem dR_init_479 : decode prog_9_method_1_code 479 = .ok (.iconst 0, 1) := by decide +kernel
theorem dR_init_480 : decode prog_9_method_1_code 480 = .ok (.invokevirtual 143, 3) := by decide +kernel
theorem dR_init_483 : decode prog_9_method_1_code 483 = .ok (.iastore, 1) := by decide +kernel
theorem dR_init_484 : decode prog_9_method_1_code 484 = .ok (.aload_n 0, 1) := by decide +kernel
theorem dR_init_485 : decode prog_9_method_1_code 485 = .ok (.iconst 1, 1) := by decide +kernel
theorem dR_init_486 : decode prog_9_method_1_code 486 = .ok (.putfield 151, 3) := by decide +kernel
theorem dR_init_489 : decode prog_9_method_1_code 489 = .ok (.aload_n 0, 1) := by decide +kernel
theorem dR_init_490 : decode prog_9_method_1_code 490 = .ok (.getfield 80, 3) := by decide +kernel
theorem dR_init_493 : decode prog_9_method_1_code 493 = .ok (.iconst 0, 1) := by decide +kernel
theorem dR_init_494 : decode prog_9_method_1_code 494 = .ok (.iconst 0, 1) := by decide +kernel
theorem dR_init_495 : decode prog_9_method_1_code 495 = .ok (.iastore, 1) := by decide +kernel
theorem dR_init_496 : decode prog_9_method_1_code 496 = .ok (.aload_n 0, 1) := by decide +kernel
theorem dR_init_497 : decode prog_9_method_1_code 497 = .ok (.getfield 83, 3) := by decide +kernel
theorem dR_init_500 : decode prog_9_method_1_code 500 = .ok (.iconst 0, 1) := by decide +kernel
theorem dR_init_501 : decode prog_9_method_1_code 501 = .ok (.iconst 0, 1) := by decide +kernel
theorem dR_init_502 : decode prog_9_method_1_code 502 = .ok (.iastore, 1) := by decide +kernel
theorem dR_init_503 : decode prog_9_method_1_code 503 = .ok (.aload_n 0, 1) := by decide +kernel
theorem dR_init_504 : decode prog_9_method_1_code 504 = .ok (.getfield 86, 3) := by decide +kernel
theorem dR_init_507 : decode prog_9_method_1_code 507 = .ok (.iconst 0, 1) := by decide +kernel
theorem dR_init_508 : decode prog_9_method_1_code 508 = .ok (.aload_n 0, 1) := by decide +kernel
theorem dR_init_509 : decode prog_9_method_1_code 509 = .ok (.getfield 65, 3) := by decide +kernel
theorem dR_init_512 : decode prog_9_method_1_code 512 = .ok (.iconst 0, 1) := by decide +kernel
theorem dR_init_513 : decode prog_9_method_1_code 513 = .ok (.iaload, 1) := by decide +kernel
theorem dR_init_514 : decode prog_9_method_1_code 514 = .ok (.iastore, 1) := by decide +kernel
theorem dR_init_515 : decode prog_9_method_1_code 515 = .ok (.aload_n 0, 1) := by decide +kernel
theorem dR_init_516 : decode prog_9_method_1_code 516 = .ok (.getfield 95, 3) := by decide +kernel
theorem dR_init_519 : decode prog_9_method_1_code 519 = .ok (.iconst 0, 1) := by decide +kernel
theorem dR_init_520 : decode prog_9_method_1_code 520 = .ok (.iconst 1, 1) := by decide +kernel
theorem dR_init_521 : decode prog_9_method_1_code 521 = .ok (.bastore, 1) := by decide +kernel
theorem dR_init_522 : decode prog_9_method_1_code 522 = .ok (.return_, 1) := by decide +kernel
theorem dR_make_0 : decode prog_9_method_4_code 0 = .ok (.aload_n 0, 1) := by decide +kernel
theorem dR_make_1 : decode prog_9_method_4_code 1 = .ok (.getfield 7, 3) := by decide +kernel
theorem dR_make_4 : decode prog_9_method_4_code 4 = .ok (.aload_n 0, 1) := by decide +kernel
theorem dR_make_5 : decode prog_9_method_4_code 5 = .ok (.getfield 158, 3) := by decide +kernel
theorem dR_make_8 : decode prog_9_method_4_code 8 = .ok (.iload_n 1, 1) := by decide +kernel
theorem dR_make_9 : decode prog_9_method_4_code 9 = .ok (.iastore, 1) := by decide +kernel
theorem dR_make_10 : decode prog_9_method_4_code 10 = .ok (.aload_n 0, 1) := by decide +kernel
theorem dR_make_11 : decode prog_9_method_4_code 11 = .ok (.getfield 13, 3) := by decide +kernel
theorem dR_make_14 : decode prog_9_method_4_code 14 = .ok (.aload_n 0, 1) := by decide +kernel
theorem dR_make_15 : decode prog_9_method_4_code 15 = .ok (.getfield 158, 3) := by decide +kernel
theorem dR_make_18 : decode prog_9_method_4_code 18 = .ok (.iload_n 2, 1) := by decide +kernel
theorem dR_make_19 : decode prog_9_method_4_code 19 = .ok (.iastore, 1) := by decide +kernel
theorem dR_make_20 : decode prog_9_method_4_code 20 = .ok (.aload_n 0, 1) := by decide +kernel
theorem dR_make_21 : decode prog_9_method_4_code 21 = .ok (.getfield 16, 3) := by decide +kernel
theorem dR_make_24 : decode prog_9_method_4_code 24 = .ok (.aload_n 0, 1) := by decide +kernel
theorem dR_make_25 : decode prog_9_method_4_code 25 = .ok (.getfield 158, 3) := by decide +kernel
theorem dR_make_28 : decode prog_9_method_4_code 28 = .ok (.iload_n 3, 1) := by decide +kernel
theorem dR_make_29 : decode prog_9_method_4_code 29 = .ok (.iastore, 1) := by decide +kernel
theorem dR_make_30 : decode prog_9_method_4_code 30 = .ok (.aload_n 0, 1) := by decide +kernel
theorem dR_make_31 : decode prog_9_method_4_code 31 = .ok (.dup, 1) := by decide +kernel
theorem dR_make_32 : decode prog_9_method_4_code 32 = .ok (.getfield 158, 3) := by decide +kernel
theorem dR_make_35 : decode prog_9_method_4_code 35 = .ok (.iconst 1, 1) := by decide +kernel
theorem dR_make_36 : decode prog_9_method_4_code 36 = .ok (.iadd, 1) := by decide +kernel
theorem dR_make_37 : decode prog_9_method_4_code 37 = .ok (.putfield 158, 3) := by decide +kernel
theorem dR_make_40 : decode prog_9_method_4_code 40 = .ok (.aload_n 0, 1) := by decide +kernel
theorem dR_make_41 : decode prog_9_method_4_code 41 = .ok (.getfield 158, 3) := by decide +kernel
theorem dR_make_44 : decode prog_9_method_4_code 44 = .ok (.iconst 1, 1) := by decide +kernel
theorem dR_make_45 : decode prog_9_method_4_code 45 = .ok (.isub, 1) := by decide +kernel
theorem dR_make_46 : decode prog_9_method_4_code 46 = .ok (.ireturn, 1) := by decide +kernel
theorem dR_leave_0 : decode prog_9_method_18_code 0 = .ok (.aload_n 0, 1) := by decide +kernel
theorem dR_leave_1 : decode prog_9_method_18_code 1 = .ok (.getfield 80, 3) := by decide +kernel
theorem dR_leave_4 : decode prog_9_method_18_code 4 = .ok (.iload_n 1, 1) := by decide +kernel
theorem dR_leave_5 : decode prog_9_method_18_code 5 = .ok (.iconst (-1), 1) := by decide +kernel
theorem dR_leave_6 : decode prog_9_method_18_code 6 = .ok (.iastore, 1) := by decide +kernel
theorem dR_leave_7 : decode prog_9_method_18_code 7 = .ok (.aload_n 0, 1) := by decide +kernel
theorem dR_leave_8 : decode prog_9_method_18_code 8 = .ok (.getfield 83, 3) := by decide +kernel
theorem dR_leave_11 : decode prog_9_method_18_code 11 = .ok (.iload_n 1, 1) := by decide +kernel
theorem dR_leave_12 : decode prog_9_method_18_code 12 = .ok (.iconst (-1), 1) := by decide +kernel
theorem dR_leave_13 : decode prog_9_method_18_code 13 = .ok (.iastore, 1) := by decide +kernel
theorem dR_leave_14 : decode prog_9_method_18_code 14 = .ok (.aload_n 0, 1) := by decide +kernel
theorem dR_leave_15 : decode prog_9_method_18_code 15 = .ok (.getfield 86, 3) := by decide +kernel
theorem dR_leave_18 : decode prog_9_method_18_code 18 = .ok (.iload_n 1, 1) := by decide +kernel
theorem dR_leave_19 : decode prog_9_method_18_code 19 = .ok (.iconst (-1), 1) := by decide +kernel
theorem dR_leave_20 : decode prog_9_method_18_code 20 = .ok (.iastore, 1) := by decide +kernel
theorem dR_leave_21 : decode prog_9_method_18_code 21 = .ok (.aload_n 0, 1) := by decide +kernel
theorem dR_leave_22 : decode prog_9_method_18_code 22 = .ok (.getfield 95, 3) := by decide +kernel
theorem dR_leave_25 : decode prog_9_method_18_code 25 = .ok (.iload_n 1, 1) := by decide +kernel
theorem dR_leave_26 : decode prog_9_method_18_code 26 = .ok (.iconst 0, 1) := by decide +kernel
theorem dR_leave_27 : decode prog_9_method_18_code 27 = .ok (.bastore, 1) := by decide +kernel
theorem dR_leave_28 : decode prog_9_method_18_code 28 = .ok (.aload_n 0, 1) := by decide +kernel
theorem dR_leave_29 : decode prog_9_method_18_code 29 = .ok (.getfield 92, 3) := by decide +kernel
theorem dR_leave_32 : decode prog_9_method_18_code 32 = .ok (.iload_n 1, 1) := by decide +kernel
theorem dR_leave_33 : decode prog_9_method_18_code 33 = .ok (.iconst 0, 1) := by decide +kernel
theorem dR_leave_34 : decode prog_9_method_18_code 34 = .ok (.iastore, 1) := by decide +kernel
theorem dR_leave_35 : decode prog_9_method_18_code 35 = .ok (.iconst 0, 1) := by decide +kernel
theorem dR_leave_36 : decode prog_9_method_18_code 36 = .ok (.istore_n 2, 1) := by decide +kernel
theorem dR_leave_37 : decode prog_9_method_18_code 37 = .ok (.iload_n 2, 1) := by decide +kernel
theorem dR_leave_38 : decode prog_9_method_18_code 38 = .ok (.bipush 31, 2) := by decide +kernel
theorem dR_leave_40 : decode prog_9_method_18_code 40 = .ok (.if_icmp .ge 21, 3) := by decide +kernel
theorem dR_leave_43 : decode prog_9_method_18_code 43 = .ok (.aload_n 0, 1) := by decide +kernel
theorem dR_leave_44 : decode prog_9_method_18_code 44 = .ok (.getfield 98, 3) := by decide +kernel
theorem dR_leave_47 : decode prog_9_method_18_code 47 = .ok (.bipush 31, 2) := by decide +kernel
theorem dR_leave_49 : decode prog_9_method_18_code 49 = .ok (.iload_n 1, 1) := by decide +kernel
theorem dR_leave_50 : decode prog_9_method_18_code 50 = .ok (.imul, 1) := by decide +kernel
theorem dR_leave_51 : decode prog_9_method_18_code 51 = .ok (.iload_n 2, 1) := by decide +kernel
theorem dR_leave_52 : decode prog_9_method_18_code 52 = .ok (.iadd, 1) := by decide +kernel
theorem dR_leave_53 : decode prog_9_method_18_code 53 = .ok (.iconst (-1), 1) := by decide +kernel
theorem dR_leave_54 : decode prog_9_method_18_code 54 = .ok (.iastore, 1) := by decide +kernel
theorem dR_leave_55 : decode prog_9_method_18_code 55 = .ok (.iinc 2 1, 3) := by decide +kernel
theorem dR_leave_58 : decode prog_9_method_18_code 58 = .ok (.goto (-21), 3) := by decide +kernel
theorem dR_leave_61 : decode prog_9_method_18_code 61 = .ok (.return_, 1) := by decide +kernel
theorem dR_thrown_0 : decode prog_9_method_2_code 0 = .ok (.aload_n 0, 1) := by decide +kernel
theorem dR_thrown_1 : decode prog_9_method_2_code 1 = .ok (.getfield 155, 3) := by decide +kernel
theorem dR_thrown_4 : decode prog_9_method_2_code 4 = .ok (.ireturn, 1) := by decide +kernel
theorem dR_offer_0 : decode prog_9_method_40_code 0 = .ok (.aload_n 0, 1) := by decide +kernel
theorem dR_offer_1 : decode prog_9_method_40_code 1 = .ok (.iload_n 1, 1) := by decide +kernel
theorem dR_offer_2 : decode prog_9_method_40_code 2 = .ok (.bipush 16, 2) := by decide +kernel
theorem dR_offer_4 : decode prog_9_method_40_code 4 = .ok (.invokestatic 264, 3) := by decide +kernel
theorem dR_offer_7 : decode prog_9_method_40_code 7 = .ok (.ifCond .ne 7, 3) := by decide +kernel
theorem dR_offer_10 : decode prog_9_method_40_code 10 = .ok (.iconst 1, 1) := by decide +kernel
theorem dR_offer_11 : decode prog_9_method_40_code 11 = .ok (.goto 17, 3) := by decide +kernel
theorem dR_offer_14 : decode prog_9_method_40_code 14 = .ok (.aload_n 0, 1) := by decide +kernel
theorem dR_offer_15 : decode prog_9_method_40_code 15 = .ok (.getfield 189, 3) := by decide +kernel
theorem dR_offer_18 : decode prog_9_method_40_code 18 = .ok (.bipush 60, 2) := by decide +kernel
theorem dR_offer_20 : decode prog_9_method_40_code 20 = .ok (.if_icmp .ne 7, 3) := by decide +kernel
theorem dR_offer_23 : decode prog_9_method_40_code 23 = .ok (.iconst 2, 1) := by decide +kernel
theorem dR_offer_24 : decode prog_9_method_40_code 24 = .ok (.goto 4, 3) := by decide +kernel
theorem dR_offer_27 : decode prog_9_method_40_code 27 = .ok (.iconst 0, 1) := by decide +kernel
theorem dR_offer_28 : decode prog_9_method_40_code 28 = .ok (.putfield 155, 3) := by decide +kernel
theorem dR_offer_31 : decode prog_9_method_40_code 31 = .ok (.aload_n 0, 1) := by decide +kernel
theorem dR_offer_32 : decode prog_9_method_40_code 32 = .ok (.getfield 155, 3) := by decide +kernel
theorem dR_offer_35 : decode prog_9_method_40_code 35 = .ok (.ifCond .le 5, 3) := by decide +kernel
theorem dR_offer_38 : decode prog_9_method_40_code 38 = .ok (.iconst 0, 1) := by decide +kernel
theorem dR_offer_39 : decode prog_9_method_40_code 39 = .ok (.ireturn, 1) := by decide +kernel
theorem dR_offer_40 : decode prog_9_method_40_code 40 = .ok (.aload_n 0, 1) := by decide +kernel
theorem dR_offer_41 : decode prog_9_method_40_code 41 = .ok (.getfield 104, 3) := by decide +kernel
theorem dR_offer_44 : decode prog_9_method_40_code 44 = .ok (.aload_n 0, 1) := by decide +kernel
theorem dR_offer_45 : decode prog_9_method_40_code 45 = .ok (.getfield 189, 3) := by decide +kernel
theorem dR_offer_48 : decode prog_9_method_40_code 48 = .ok (.iload_n 1, 1) := by decide +kernel
theorem dR_offer_49 : decode prog_9_method_40_code 49 = .ok (.iastore, 1) := by decide +kernel
theorem dR_offer_50 : decode prog_9_method_40_code 50 = .ok (.aload_n 0, 1) := by decide +kernel
theorem dR_offer_51 : decode prog_9_method_40_code 51 = .ok (.getfield 107, 3) := by decide +kernel
theorem dR_offer_54 : decode prog_9_method_40_code 54 = .ok (.aload_n 0, 1) := by decide +kernel
theorem dR_offer_55 : decode prog_9_method_40_code 55 = .ok (.getfield 189, 3) := by decide +kernel
theorem dR_offer_58 : decode prog_9_method_40_code 58 = .ok (.aload_n 0, 1) := by decide +kernel
theorem dR_offer_59 : decode prog_9_method_40_code 59 = .ok (.iconst 1, 1) := by decide +kernel
theorem dR_offer_60 : decode prog_9_method_40_code 60 = .ok (.iconst 0, 1) := by decide +kernel
theorem dR_offer_61 : decode prog_9_method_40_code 61 = .ok (.iconst 0, 1) := by decide +kernel
theorem dR_offer_62 : decode prog_9_method_40_code 62 = .ok (.invokevirtual 143, 3) := by decide +kernel
theorem dR_offer_65 : decode prog_9_method_40_code 65 = .ok (.iastore, 1) := by decide +kernel
theorem dR_offer_66 : decode prog_9_method_40_code 66 = .ok (.aload_n 0, 1) := by decide +kernel
theorem dR_offer_67 : decode prog_9_method_40_code 67 = .ok (.getfield 110, 3) := by decide +kernel
theorem dR_offer_70 : decode prog_9_method_40_code 70 = .ok (.aload_n 0, 1) := by decide +kernel
theorem dR_offer_71 : decode prog_9_method_40_code 71 = .ok (.getfield 189, 3) := by decide +kernel
theorem dR_offer_74 : decode prog_9_method_40_code 74 = .ok (.aload_n 0, 1) := by decide +kernel
theorem dR_offer_75 : decode prog_9_method_40_code 75 = .ok (.iconst 1, 1) := by decide +kernel
theorem dR_offer_76 : decode prog_9_method_40_code 76 = .ok (.iconst 0, 1) := by decide +kernel
theorem dR_offer_77 : decode prog_9_method_40_code 77 = .ok (.iconst 0, 1) := by decide +kernel
theorem dR_offer_78 : decode prog_9_method_40_code 78 = .ok (.invokevirtual 143, 3) := by decide +kernel
theorem dR_offer_81 : decode prog_9_method_40_code 81 = .ok (.iastore, 1) := by decide +kernel
theorem dR_offer_82 : decode prog_9_method_40_code 82 = .ok (.aload_n 0, 1) := by decide +kernel
theorem dR_offer_83 : decode prog_9_method_40_code 83 = .ok (.getfield 113, 3) := by decide +kernel
theorem dR_offer_86 : decode prog_9_method_40_code 86 = .ok (.aload_n 0, 1) := by decide +kernel
theorem dR_offer_87 : decode prog_9_method_40_code 87 = .ok (.getfield 189, 3) := by decide +kernel
theorem dR_offer_90 : decode prog_9_method_40_code 90 = .ok (.iconst (-1), 1) := by decide +kernel
theorem dR_offer_91 : decode prog_9_method_40_code 91 = .ok (.iastore, 1) := by decide +kernel
theorem dR_offer_92 : decode prog_9_method_40_code 92 = .ok (.aload_n 0, 1) := by decide +kernel
theorem dR_offer_93 : decode prog_9_method_40_code 93 = .ok (.dup, 1) := by decide +kernel
theorem dR_offer_94 : decode prog_9_method_40_code 94 = .ok (.getfield 189, 3) := by decide +kernel
theorem dR_offer_97 : decode prog_9_method_40_code 97 = .ok (.iconst 1, 1) := by decide +kernel
theorem dR_offer_98 : decode prog_9_method_40_code 98 = .ok (.iadd, 1) := by decide +kernel
theorem dR_offer_99 : decode prog_9_method_40_code 99 = .ok (.putfield 189, 3) := by decide +kernel
theorem dR_offer_102 : decode prog_9_method_40_code 102 = .ok (.aload_n 0, 1) := by decide +kernel
theorem dR_offer_103 : decode prog_9_method_40_code 103 = .ok (.getfield 189, 3) := by decide +kernel
theorem dR_offer_106 : decode prog_9_method_40_code 106 = .ok (.iconst 1, 1) := by decide +kernel
theorem dR_offer_107 : decode prog_9_method_40_code 107 = .ok (.isub, 1) := by decide +kernel
theorem dR_offer_108 : decode prog_9_method_40_code 108 = .ok (.ireturn, 1) := by decide +kernel
theorem dR_in_0 : decode prog_9_method_3_code 0 = .ok (.iload_n 0, 1) := by decide +kernel
theorem dR_in_1 : decode prog_9_method_3_code 1 = .ok (.ifCond .lt 12, 3) := by decide +kernel
theorem dR_in_4 : decode prog_9_method_3_code 4 = .ok (.iload_n 0, 1) := by decide +kernel
theorem dR_in_5 : decode prog_9_method_3_code 5 = .ok (.iload_n 1, 1) := by decide +kernel
theorem dR_in_6 : decode prog_9_method_3_code 6 = .ok (.if_icmp .ge 7, 3) := by decide +kernel
theorem dR_in_9 : decode prog_9_method_3_code 9 = .ok (.iconst 1, 1) := by decide +kernel
theorem dR_in_10 : decode prog_9_method_3_code 10 = .ok (.goto 4, 3) := by decide +kernel
theorem dR_in_13 : decode prog_9_method_3_code 13 = .ok (.iconst 0, 1) := by decide +kernel
theorem dR_in_14 : decode prog_9_method_3_code 14 = .ok (.ireturn, 1) := by decide +kernel
theorem dR_add_0 : decode prog_9_method_41_code 0 = .ok (.aload_n 0, 1) := by decide +kernel
theorem dR_add_1 : decode prog_9_method_41_code 1 = .ok (.iload_n 1, 1) := by decide +kernel
theorem dR_add_2 : decode prog_9_method_41_code 2 = .ok (.iload_n 2, 1) := by decide +kernel
theorem dR_add_3 : decode prog_9_method_41_code 3 = .ok (.aload_n 0, 1) := by decide +kernel
theorem dR_add_4 : decode prog_9_method_41_code 4 = .ok (.getfield 189, 3) := by decide +kernel
theorem dR_add_7 : decode prog_9_method_41_code 7 = .ok (.invokestatic 264, 3) := by decide +kernel
theorem dR_add_10 : decode prog_9_method_41_code 10 = .ok (.invokevirtual 270, 3) := by decide +kernel
theorem dR_add_13 : decode prog_9_method_41_code 13 = .ok (.ifCond .eq 13, 3) := by decide +kernel
theorem dR_add_16 : decode prog_9_method_41_code 16 = .ok (.aload_n 0, 1) := by decide +kernel
theorem dR_add_17 : decode prog_9_method_41_code 17 = .ok (.iconst 0, 1) := by decide +kernel
theorem dR_add_18 : decode prog_9_method_41_code 18 = .ok (.iload_n 1, 1) := by decide +kernel
theorem dR_add_19 : decode prog_9_method_41_code 19 = .ok (.iload_n 2, 1) := by decide +kernel
theorem dR_add_20 : decode prog_9_method_41_code 20 = .ok (.invokevirtual 274, 3) := by decide +kernel
theorem dR_add_23 : decode prog_9_method_41_code 23 = .ok (.goto 4, 3) := by decide +kernel
theorem dR_add_26 : decode prog_9_method_41_code 26 = .ok (.iconst 0, 1) := by decide +kernel
theorem dR_add_27 : decode prog_9_method_41_code 27 = .ok (.ireturn, 1) := by decide +kernel
theorem dR_isAsked_0 : decode prog_9_method_38_code 0 = .ok (.aload_n 0, 1) := by decide +kernel
theorem dR_isAsked_1 : decode prog_9_method_38_code 1 = .ok (.iload_n 1, 1) := by decide +kernel
theorem dR_isAsked_2 : decode prog_9_method_38_code 2 = .ok (.bipush 16, 2) := by decide +kernel
theorem dR_isAsked_4 : decode prog_9_method_38_code 4 = .ok (.invokestatic 264, 3) := by decide +kernel
theorem dR_isAsked_7 : decode prog_9_method_38_code 7 = .ok (.ifCond .eq 7, 3) := by decide +kernel
theorem dR_isAsked_10 : decode prog_9_method_38_code 10 = .ok (.iload_n 2, 1) := by decide +kernel
theorem dR_isAsked_11 : decode prog_9_method_38_code 11 = .ok (.ifCond .ne 7, 3) := by decide +kernel
theorem dR_isAsked_14 : decode prog_9_method_38_code 14 = .ok (.iconst 1, 1) := by decide +kernel
theorem dR_isAsked_15 : decode prog_9_method_38_code 15 = .ok (.goto 25, 3) := by decide +kernel
theorem dR_isAsked_18 : decode prog_9_method_38_code 18 = .ok (.aload_n 0, 1) := by decide +kernel
theorem dR_isAsked_19 : decode prog_9_method_38_code 19 = .ok (.iload_n 1, 1) := by decide +kernel
theorem dR_isAsked_20 : decode prog_9_method_38_code 20 = .ok (.invokevirtual 267, 3) := by decide +kernel
theorem dR_isAsked_23 : decode prog_9_method_38_code 23 = .ok (.ifCond .eq 12, 3) := by decide +kernel
theorem dR_isAsked_26 : decode prog_9_method_38_code 26 = .ok (.aload_n 0, 1) := by decide +kernel
theorem dR_isAsked_27 : decode prog_9_method_38_code 27 = .ok (.getfield 195, 3) := by decide +kernel
theorem dR_isAsked_30 : decode prog_9_method_38_code 30 = .ok (.bipush 20, 2) := by decide +kernel
theorem dR_isAsked_32 : decode prog_9_method_38_code 32 = .ok (.if_icmp .ne 7, 3) := by decide +kernel
theorem dR_isAsked_35 : decode prog_9_method_38_code 35 = .ok (.iconst 2, 1) := by decide +kernel
theorem dR_isAsked_36 : decode prog_9_method_38_code 36 = .ok (.goto 4, 3) := by decide +kernel
theorem dR_isAsked_39 : decode prog_9_method_38_code 39 = .ok (.iconst 0, 1) := by decide +kernel
theorem dR_isAsked_40 : decode prog_9_method_38_code 40 = .ok (.putfield 155, 3) := by decide +kernel
theorem dR_isAsked_43 : decode prog_9_method_38_code 43 = .ok (.aload_n 0, 1) := by decide +kernel
theorem dR_isAsked_44 : decode prog_9_method_38_code 44 = .ok (.getfield 155, 3) := by decide +kernel
theorem dR_isAsked_47 : decode prog_9_method_38_code 47 = .ok (.ifCond .ne 7, 3) := by decide +kernel
theorem dR_isAsked_50 : decode prog_9_method_38_code 50 = .ok (.iconst 1, 1) := by decide +kernel
theorem dR_isAsked_51 : decode prog_9_method_38_code 51 = .ok (.goto 4, 3) := by decide +kernel
theorem dR_isAsked_54 : decode prog_9_method_38_code 54 = .ok (.iconst 0, 1) := by decide +kernel
theorem dR_isAsked_55 : decode prog_9_method_38_code 55 = .ok (.ireturn, 1) := by decide +kernel
theorem dR_isLatest_0 : decode prog_9_method_22_code 0 = .ok (.aload_n 0, 1) := by decide +kernel
theorem dR_isLatest_1 : decode prog_9_method_22_code 1 = .ok (.getfield 80, 3) := by decide +kernel
theorem dR_isLatest_4 : decode prog_9_method_22_code 4 = .ok (.iload_n 1, 1) := by decide +kernel
theorem dR_isLatest_5 : decode prog_9_method_22_code 5 = .ok (.iaload, 1) := by decide +kernel
theorem dR_isLatest_6 : decode prog_9_method_22_code 6 = .ok (.aload_n 0, 1) := by decide +kernel
theorem dR_isLatest_7 : decode prog_9_method_22_code 7 = .ok (.getfield 151, 3) := by decide +kernel
theorem dR_isLatest_10 : decode prog_9_method_22_code 10 = .ok (.iconst 1, 1) := by decide +kernel
theorem dR_isLatest_11 : decode prog_9_method_22_code 11 = .ok (.isub, 1) := by decide +kernel
theorem dR_isLatest_12 : decode prog_9_method_22_code 12 = .ok (.if_icmp .ne 7, 3) := by decide +kernel
theorem dR_isLatest_15 : decode prog_9_method_22_code 15 = .ok (.iconst 1, 1) := by decide +kernel
theorem dR_isLatest_16 : decode prog_9_method_22_code 16 = .ok (.goto 4, 3) := by decide +kernel
theorem dR_isLatest_19 : decode prog_9_method_22_code 19 = .ok (.iconst 0, 1) := by decide +kernel
theorem dR_isLatest_20 : decode prog_9_method_22_code 20 = .ok (.ireturn, 1) := by decide +kernel
theorem dR_propose_0 : decode prog_9_method_39_code 0 = .ok (.aload_n 0, 1) := by decide +kernel
theorem dR_propose_1 : decode prog_9_method_39_code 1 = .ok (.getfield 122, 3) := by decide +kernel
theorem dR_propose_4 : decode prog_9_method_39_code 4 = .ok (.aload_n 0, 1) := by decide +kernel
theorem dR_propose_5 : decode prog_9_method_39_code 5 = .ok (.getfield 195, 3) := by decide +kernel
theorem dR_propose_8 : decode prog_9_method_39_code 8 = .ok (.iload_n 1, 1) := by decide +kernel
theorem dR_propose_9 : decode prog_9_method_39_code 9 = .ok (.iastore, 1) := by decide +kernel
theorem dR_propose_10 : decode prog_9_method_39_code 10 = .ok (.aload_n 0, 1) := by decide +kernel
theorem dR_propose_11 : decode prog_9_method_39_code 11 = .ok (.getfield 125, 3) := by decide +kernel
theorem dR_propose_14 : decode prog_9_method_39_code 14 = .ok (.aload_n 0, 1) := by decide +kernel
theorem dR_propose_15 : decode prog_9_method_39_code 15 = .ok (.getfield 195, 3) := by decide +kernel
theorem dR_propose_18 : decode prog_9_method_39_code 18 = .ok (.iload_n 2, 1) := by decide +kernel
theorem dR_propose_19 : decode prog_9_method_39_code 19 = .ok (.iastore, 1) := by decide +kernel
theorem dR_propose_20 : decode prog_9_method_39_code 20 = .ok (.aload_n 0, 1) := by decide +kernel
theorem dR_propose_21 : decode prog_9_method_39_code 21 = .ok (.getfield 128, 3) := by decide +kernel
theorem dR_propose_24 : decode prog_9_method_39_code 24 = .ok (.aload_n 0, 1) := by decide +kernel
theorem dR_propose_25 : decode prog_9_method_39_code 25 = .ok (.getfield 195, 3) := by decide +kernel
theorem dR_propose_28 : decode prog_9_method_39_code 28 = .ok (.iload_n 3, 1) := by decide +kernel
theorem dR_propose_29 : decode prog_9_method_39_code 29 = .ok (.iastore, 1) := by decide +kernel
theorem dR_propose_30 : decode prog_9_method_39_code 30 = .ok (.aload_n 0, 1) := by decide +kernel
theorem dR_propose_31 : decode prog_9_method_39_code 31 = .ok (.dup, 1) := by decide +kernel
theorem dR_propose_32 : decode prog_9_method_39_code 32 = .ok (.getfield 195, 3) := by decide +kernel
theorem dR_propose_35 : decode prog_9_method_39_code 35 = .ok (.iconst 1, 1) := by decide +kernel
theorem dR_propose_36 : decode prog_9_method_39_code 36 = .ok (.iadd, 1) := by decide +kernel
theorem dR_propose_37 : decode prog_9_method_39_code 37 = .ok (.putfield 195, 3) := by decide +kernel
theorem dR_propose_40 : decode prog_9_method_39_code 40 = .ok (.aload_n 0, 1) := by decide +kernel
theorem dR_propose_41 : decode prog_9_method_39_code 41 = .ok (.getfield 195, 3) := by decide +kernel
theorem dR_propose_44 : decode prog_9_method_39_code 44 = .ok (.ireturn, 1) := by decide +kernel
theorem dR_remove_0 : decode prog_9_method_42_code 0 = .ok (.aload_n 0, 1) := by decide +kernel
theorem dR_remove_1 : decode prog_9_method_42_code 1 = .ok (.iload_n 1, 1) := by decide +kernel
theorem dR_remove_2 : decode prog_9_method_42_code 2 = .ok (.iload_n 2, 1) := by decide +kernel
theorem dR_remove_3 : decode prog_9_method_42_code 3 = .ok (.bipush 16, 2) := by decide +kernel
theorem dR_remove_5 : decode prog_9_method_42_code 5 = .ok (.invokestatic 264, 3) := by decide +kernel
theorem dR_remove_8 : decode prog_9_method_42_code 8 = .ok (.invokevirtual 270, 3) := by decide +kernel
theorem dR_remove_11 : decode prog_9_method_42_code 11 = .ok (.ifCond .eq 13, 3) := by decide +kernel
theorem dR_remove_14 : decode prog_9_method_42_code 14 = .ok (.aload_n 0, 1) := by decide +kernel
theorem dR_remove_15 : decode prog_9_method_42_code 15 = .ok (.iconst 1, 1) := by decide +kernel
theorem dR_remove_16 : decode prog_9_method_42_code 16 = .ok (.iload_n 1, 1) := by decide +kernel
theorem dR_remove_17 : decode prog_9_method_42_code 17 = .ok (.iload_n 2, 1) := by decide +kernel
theorem dR_remove_18 : decode prog_9_method_42_code 18 = .ok (.invokevirtual 274, 3) := by decide +kernel
theorem dR_remove_21 : decode prog_9_method_42_code 21 = .ok (.goto 4, 3) := by decide +kernel
theorem dR_remove_24 : decode prog_9_method_42_code 24 = .ok (.iconst 0, 1) := by decide +kernel
theorem dR_remove_25 : decode prog_9_method_42_code 25 = .ok (.ireturn, 1) := by decide +kernel
theorem dR_update_0 : decode prog_9_method_43_code 0 = .ok (.aload_n 0, 1) := by decide +kernel
theorem dR_update_1 : decode prog_9_method_43_code 1 = .ok (.iload_n 1, 1) := by decide +kernel
theorem dR_update_2 : decode prog_9_method_43_code 2 = .ok (.iconst 1, 1) := by decide +kernel
theorem dR_update_3 : decode prog_9_method_43_code 3 = .ok (.invokevirtual 270, 3) := by decide +kernel
theorem dR_update_6 : decode prog_9_method_43_code 6 = .ok (.ifCond .ne 5, 3) := by decide +kernel
theorem dR_update_9 : decode prog_9_method_43_code 9 = .ok (.iconst 0, 1) := by decide +kernel
theorem dR_update_10 : decode prog_9_method_43_code 10 = .ok (.ireturn, 1) := by decide +kernel
theorem dR_update_11 : decode prog_9_method_43_code 11 = .ok (.aload_n 0, 1) := by decide +kernel
theorem dR_update_12 : decode prog_9_method_43_code 12 = .ok (.iconst 1, 1) := by decide +kernel
theorem dR_update_13 : decode prog_9_method_43_code 13 = .ok (.iconst 0, 1) := by decide +kernel
theorem dR_update_14 : decode prog_9_method_43_code 14 = .ok (.iconst 0, 1) := by decide +kernel
theorem dR_update_15 : decode prog_9_method_43_code 15 = .ok (.invokevirtual 143, 3) := by decide +kernel
theorem dR_update_18 : decode prog_9_method_43_code 18 = .ok (.istore_n 2, 1) := by decide +kernel
theorem dR_update_19 : decode prog_9_method_43_code 19 = .ok (.aload_n 0, 1) := by decide +kernel
theorem dR_update_20 : decode prog_9_method_43_code 20 = .ok (.getfield 101, 3) := by decide +kernel
theorem dR_update_23 : decode prog_9_method_43_code 23 = .ok (.bipush 20, 2) := by decide +kernel
theorem dR_update_25 : decode prog_9_method_43_code 25 = .ok (.iload_n 1, 1) := by decide +kernel
theorem dR_update_26 : decode prog_9_method_43_code 26 = .ok (.imul, 1) := by decide +kernel
theorem dR_update_27 : decode prog_9_method_43_code 27 = .ok (.aload_n 0, 1) := by decide +kernel
theorem dR_update_28 : decode prog_9_method_43_code 28 = .ok (.getfield 92, 3) := by decide +kernel
theorem dR_update_31 : decode prog_9_method_43_code 31 = .ok (.iload_n 1, 1) := by decide +kernel
theorem dR_update_32 : decode prog_9_method_43_code 32 = .ok (.iaload, 1) := by decide +kernel
theorem dR_update_33 : decode prog_9_method_43_code 33 = .ok (.iadd, 1) := by decide +kernel
theorem dR_update_34 : decode prog_9_method_43_code 34 = .ok (.iload_n 2, 1) := by decide +kernel
theorem dR_update_35 : decode prog_9_method_43_code 35 = .ok (.iastore, 1) := by decide +kernel
theorem dR_update_36 : decode prog_9_method_43_code 36 = .ok (.aload_n 0, 1) := by decide +kernel
theorem dR_update_37 : decode prog_9_method_43_code 37 = .ok (.getfield 92, 3) := by decide +kernel
theorem dR_update_40 : decode prog_9_method_43_code 40 = .ok (.iload_n 1, 1) := by decide +kernel
theorem dR_update_41 : decode prog_9_method_43_code 41 = .ok (.dup2, 1) := by decide +kernel
theorem dR_update_42 : decode prog_9_method_43_code 42 = .ok (.iaload, 1) := by decide +kernel
theorem dR_update_43 : decode prog_9_method_43_code 43 = .ok (.iconst 1, 1) := by decide +kernel
theorem dR_update_44 : decode prog_9_method_43_code 44 = .ok (.iadd, 1) := by decide +kernel
theorem dR_update_45 : decode prog_9_method_43_code 45 = .ok (.iastore, 1) := by decide +kernel
theorem dR_update_46 : decode prog_9_method_43_code 46 = .ok (.aload_n 0, 1) := by decide +kernel
theorem dR_update_47 : decode prog_9_method_43_code 47 = .ok (.iconst 2, 1) := by decide +kernel
theorem dR_update_48 : decode prog_9_method_43_code 48 = .ok (.iload_n 1, 1) := by decide +kernel
theorem dR_update_49 : decode prog_9_method_43_code 49 = .ok (.iload_n 2, 1) := by decide +kernel
theorem dR_update_50 : decode prog_9_method_43_code 50 = .ok (.invokevirtual 274, 3) := by decide +kernel
theorem dR_update_53 : decode prog_9_method_43_code 53 = .ok (.ireturn, 1) := by decide +kernel
theorem dR_commit_0 : decode prog_9_method_44_code 0 = .ok (.aload_n 0, 1) := by decide +kernel
theorem dR_commit_1 : decode prog_9_method_44_code 1 = .ok (.iload_n 1, 1) := by decide +kernel
theorem dR_commit_2 : decode prog_9_method_44_code 2 = .ok (.bipush 16, 2) := by decide +kernel
theorem dR_commit_4 : decode prog_9_method_44_code 4 = .ok (.invokestatic 264, 3) := by decide +kernel
theorem dR_commit_7 : decode prog_9_method_44_code 7 = .ok (.ifCond .ne 7, 3) := by decide +kernel
theorem dR_commit_10 : decode prog_9_method_44_code 10 = .ok (.iconst 1, 1) := by decide +kernel
theorem dR_commit_11 : decode prog_9_method_44_code 11 = .ok (.goto 25, 3) := by decide +kernel
theorem dR_commit_14 : decode prog_9_method_44_code 14 = .ok (.aload_n 0, 1) := by decide +kernel
theorem dR_commit_15 : decode prog_9_method_44_code 15 = .ok (.iload_n 1, 1) := by decide +kernel
theorem dR_commit_16 : decode prog_9_method_44_code 16 = .ok (.invokevirtual 267, 3) := by decide +kernel
theorem dR_commit_19 : decode prog_9_method_44_code 19 = .ok (.ifCond .eq 12, 3) := by decide +kernel
theorem dR_commit_22 : decode prog_9_method_44_code 22 = .ok (.aload_n 0, 1) := by decide +kernel
theorem dR_commit_23 : decode prog_9_method_44_code 23 = .ok (.getfield 151, 3) := by decide +kernel
theorem dR_commit_26 : decode prog_9_method_44_code 26 = .ok (.bipush 60, 2) := by decide +kernel
theorem dR_commit_28 : decode prog_9_method_44_code 28 = .ok (.if_icmp .ne 7, 3) := by decide +kernel
theorem dR_commit_31 : decode prog_9_method_44_code 31 = .ok (.iconst 2, 1) := by decide +kernel
theorem dR_commit_32 : decode prog_9_method_44_code 32 = .ok (.goto 4, 3) := by decide +kernel
theorem dR_commit_35 : decode prog_9_method_44_code 35 = .ok (.iconst 0, 1) := by decide +kernel
theorem dR_commit_36 : decode prog_9_method_44_code 36 = .ok (.putfield 155, 3) := by decide +kernel
theorem dR_commit_39 : decode prog_9_method_44_code 39 = .ok (.aload_n 0, 1) := by decide +kernel
theorem dR_commit_40 : decode prog_9_method_44_code 40 = .ok (.getfield 155, 3) := by decide +kernel
theorem dR_commit_43 : decode prog_9_method_44_code 43 = .ok (.ifCond .le 5, 3) := by decide +kernel
theorem dR_commit_46 : decode prog_9_method_44_code 46 = .ok (.iconst 0, 1) := by decide +kernel
theorem dR_commit_47 : decode prog_9_method_44_code 47 = .ok (.ireturn, 1) := by decide +kernel
theorem dR_commit_48 : decode prog_9_method_44_code 48 = .ok (.aload_n 0, 1) := by decide +kernel
theorem dR_commit_49 : decode prog_9_method_44_code 49 = .ok (.iload_n 1, 1) := by decide +kernel
theorem dR_commit_50 : decode prog_9_method_44_code 50 = .ok (.iload_n 2, 1) := by decide +kernel
theorem dR_commit_51 : decode prog_9_method_44_code 51 = .ok (.invokevirtual 277, 3) := by decide +kernel
theorem dR_commit_54 : decode prog_9_method_44_code 54 = .ok (.aload_n 0, 1) := by decide +kernel
theorem dR_commit_55 : decode prog_9_method_44_code 55 = .ok (.getfield 151, 3) := by decide +kernel
theorem dR_commit_58 : decode prog_9_method_44_code 58 = .ok (.iconst 1, 1) := by decide +kernel
theorem dR_commit_59 : decode prog_9_method_44_code 59 = .ok (.isub, 1) := by decide +kernel
theorem dR_commit_60 : decode prog_9_method_44_code 60 = .ok (.ireturn, 1) := by decide +kernel
theorem dR_change_0 : decode prog_9_method_37_code 0 = .ok (.aload_n 0, 1) := by decide +kernel
theorem dR_change_1 : decode prog_9_method_37_code 1 = .ok (.getfield 151, 3) := by decide +kernel
theorem dR_change_4 : decode prog_9_method_37_code 4 = .ok (.istore_n 3, 1) := by decide +kernel
theorem dR_change_5 : decode prog_9_method_37_code 5 = .ok (.aload_n 0, 1) := by decide +kernel
theorem dR_change_6 : decode prog_9_method_37_code 6 = .ok (.getfield 83, 3) := by decide +kernel
theorem dR_change_9 : decode prog_9_method_37_code 9 = .ok (.iload_n 1, 1) := by decide +kernel
theorem dR_change_10 : decode prog_9_method_37_code 10 = .ok (.iaload, 1) := by decide +kernel
theorem dR_change_11 : decode prog_9_method_37_code 11 = .ok (.istore 4, 2) := by decide +kernel
theorem dR_change_13 : decode prog_9_method_37_code 13 = .ok (.aload_n 0, 1) := by decide +kernel
theorem dR_change_14 : decode prog_9_method_37_code 14 = .ok (.iload_n 3, 1) := by decide +kernel
theorem dR_change_15 : decode prog_9_method_37_code 15 = .ok (.iconst 1, 1) := by decide +kernel
theorem dR_change_16 : decode prog_9_method_37_code 16 = .ok (.isub, 1) := by decide +kernel
theorem dR_change_17 : decode prog_9_method_37_code 17 = .ok (.iload_n 3, 1) := by decide +kernel
theorem dR_change_18 : decode prog_9_method_37_code 18 = .ok (.invokevirtual 236, 3) := by decide +kernel
theorem dR_change_21 : decode prog_9_method_37_code 21 = .ok (.aload_n 0, 1) := by decide +kernel
theorem dR_change_22 : decode prog_9_method_37_code 22 = .ok (.getfield 44, 3) := by decide +kernel
theorem dR_change_25 : decode prog_9_method_37_code 25 = .ok (.iload_n 3, 1) := by decide +kernel
theorem dR_change_26 : decode prog_9_method_37_code 26 = .ok (.iload 4, 2) := by decide +kernel
theorem dR_change_28 : decode prog_9_method_37_code 28 = .ok (.iastore, 1) := by decide +kernel
theorem dR_change_29 : decode prog_9_method_37_code 29 = .ok (.aload_n 0, 1) := by decide +kernel
theorem dR_change_30 : decode prog_9_method_37_code 30 = .ok (.iload_n 3, 1) := by decide +kernel
theorem dR_change_31 : decode prog_9_method_37_code 31 = .ok (.iload 4, 2) := by decide +kernel
theorem dR_change_33 : decode prog_9_method_37_code 33 = .ok (.invokevirtual 239, 3) := by decide +kernel
theorem dR_change_36 : decode prog_9_method_37_code 36 = .ok (.aload_n 0, 1) := by decide +kernel
theorem dR_change_37 : decode prog_9_method_37_code 37 = .ok (.iload_n 3, 1) := by decide +kernel
theorem dR_change_38 : decode prog_9_method_37_code 38 = .ok (.iload 4, 2) := by decide +kernel
theorem dR_change_40 : decode prog_9_method_37_code 40 = .ok (.invokevirtual 242, 3) := by decide +kernel
theorem dR_change_43 : decode prog_9_method_37_code 43 = .ok (.aload_n 0, 1) := by decide +kernel
theorem dR_change_44 : decode prog_9_method_37_code 44 = .ok (.iload_n 3, 1) := by decide +kernel
theorem dR_change_45 : decode prog_9_method_37_code 45 = .ok (.invokevirtual 245, 3) := by decide +kernel
theorem dR_change_48 : decode prog_9_method_37_code 48 = .ok (.aload_n 0, 1) := by decide +kernel
theorem dR_change_49 : decode prog_9_method_37_code 49 = .ok (.iload_n 3, 1) := by decide +kernel
theorem dR_change_50 : decode prog_9_method_37_code 50 = .ok (.invokevirtual 248, 3) := by decide +kernel
theorem dR_change_53 : decode prog_9_method_37_code 53 = .ok (.aload_n 0, 1) := by decide +kernel
theorem dR_change_54 : decode prog_9_method_37_code 54 = .ok (.iload_n 3, 1) := by decide +kernel
theorem dR_change_55 : decode prog_9_method_37_code 55 = .ok (.invokevirtual 251, 3) := by decide +kernel
theorem dR_change_58 : decode prog_9_method_37_code 58 = .ok (.aload_n 0, 1) := by decide +kernel
theorem dR_change_59 : decode prog_9_method_37_code 59 = .ok (.getfield 62, 3) := by decide +kernel
theorem dR_change_62 : decode prog_9_method_37_code 62 = .ok (.iload_n 3, 1) := by decide +kernel
theorem dR_change_63 : decode prog_9_method_37_code 63 = .ok (.iload_n 2, 1) := by decide +kernel
theorem dR_change_64 : decode prog_9_method_37_code 64 = .ok (.ifCond .ne 30, 3) := by decide +kernel
theorem dR_change_67 : decode prog_9_method_37_code 67 = .ok (.aload_n 0, 1) := by decide +kernel
theorem dR_change_68 : decode prog_9_method_37_code 68 = .ok (.getfield 50, 3) := by decide +kernel
theorem dR_change_71 : decode prog_9_method_37_code 71 = .ok (.iload_n 3, 1) := by decide +kernel
theorem dR_change_72 : decode prog_9_method_37_code 72 = .ok (.iaload, 1) := by decide +kernel
theorem dR_change_73 : decode prog_9_method_37_code 73 = .ok (.ifCond .ne 21, 3) := by decide +kernel
theorem dR_change_76 : decode prog_9_method_37_code 76 = .ok (.aload_n 0, 1) := by decide +kernel
theorem dR_change_77 : decode prog_9_method_37_code 77 = .ok (.getfield 53, 3) := by decide +kernel
theorem dR_change_80 : decode prog_9_method_37_code 80 = .ok (.iload_n 3, 1) := by decide +kernel
theorem dR_change_81 : decode prog_9_method_37_code 81 = .ok (.iaload, 1) := by decide +kernel
theorem dR_change_82 : decode prog_9_method_37_code 82 = .ok (.ifCond .ne 12, 3) := by decide +kernel
theorem dR_change_85 : decode prog_9_method_37_code 85 = .ok (.aload_n 0, 1) := by decide +kernel
theorem dR_change_86 : decode prog_9_method_37_code 86 = .ok (.getfield 56, 3) := by decide +kernel
theorem dR_change_89 : decode prog_9_method_37_code 89 = .ok (.iload_n 3, 1) := by decide +kernel
theorem dR_change_90 : decode prog_9_method_37_code 90 = .ok (.iaload, 1) := by decide +kernel
theorem dR_change_91 : decode prog_9_method_37_code 91 = .ok (.ifCond .ne 7, 3) := by decide +kernel
theorem dR_change_94 : decode prog_9_method_37_code 94 = .ok (.iconst 1, 1) := by decide +kernel
theorem dR_change_95 : decode prog_9_method_37_code 95 = .ok (.goto 4, 3) := by decide +kernel
theorem dR_change_98 : decode prog_9_method_37_code 98 = .ok (.iconst 0, 1) := by decide +kernel
theorem dR_change_99 : decode prog_9_method_37_code 99 = .ok (.bastore, 1) := by decide +kernel
theorem dR_change_100 : decode prog_9_method_37_code 100 = .ok (.aload_n 0, 1) := by decide +kernel
theorem dR_change_101 : decode prog_9_method_37_code 101 = .ok (.getfield 62, 3) := by decide +kernel
theorem dR_change_104 : decode prog_9_method_37_code 104 = .ok (.iload_n 3, 1) := by decide +kernel
theorem dR_change_105 : decode prog_9_method_37_code 105 = .ok (.baload, 1) := by decide +kernel
theorem dR_change_106 : decode prog_9_method_37_code 106 = .ok (.ifCond .eq 13, 3) := by decide +kernel
theorem dR_change_109 : decode prog_9_method_37_code 109 = .ok (.aload_n 0, 1) := by decide +kernel
theorem dR_change_110 : decode prog_9_method_37_code 110 = .ok (.iload_n 3, 1) := by decide +kernel
theorem dR_change_111 : decode prog_9_method_37_code 111 = .ok (.iload 4, 2) := by decide +kernel
theorem dR_change_113 : decode prog_9_method_37_code 113 = .ok (.invokevirtual 254, 3) := by decide +kernel
theorem dR_change_116 : decode prog_9_method_37_code 116 = .ok (.goto 4, 3) := by decide +kernel
theorem dR_change_119 : decode prog_9_method_37_code 119 = .ok (.iconst 0, 1) := by decide +kernel
theorem dR_change_120 : decode prog_9_method_37_code 120 = .ok (.istore 5, 2) := by decide +kernel
theorem dR_change_122 : decode prog_9_method_37_code 122 = .ok (.aload_n 0, 1) := by decide +kernel
theorem dR_change_123 : decode prog_9_method_37_code 123 = .ok (.iconst 4, 1) := by decide +kernel
theorem dR_change_124 : decode prog_9_method_37_code 124 = .ok (.aload_n 0, 1) := by decide +kernel
theorem dR_change_125 : decode prog_9_method_37_code 125 = .ok (.bipush 6, 2) := by decide +kernel
theorem dR_change_127 : decode prog_9_method_37_code 127 = .ok (.aload_n 0, 1) := by decide +kernel
theorem dR_change_128 : decode prog_9_method_37_code 128 = .ok (.getfield 41, 3) := by decide +kernel
theorem dR_change_131 : decode prog_9_method_37_code 131 = .ok (.iload_n 3, 1) := by decide +kernel
theorem dR_change_132 : decode prog_9_method_37_code 132 = .ok (.iconst 1, 1) := by decide +kernel
theorem dR_change_133 : decode prog_9_method_37_code 133 = .ok (.isub, 1) := by decide +kernel
theorem dR_change_134 : decode prog_9_method_37_code 134 = .ok (.iaload, 1) := by decide +kernel
theorem dR_change_135 : decode prog_9_method_37_code 135 = .ok (.iconst 0, 1) := by decide +kernel
theorem dR_change_136 : decode prog_9_method_37_code 136 = .ok (.invokevirtual 221, 3) := by decide +kernel
theorem dR_change_139 : decode prog_9_method_37_code 139 = .ok (.iload 5, 2) := by decide +kernel
theorem dR_change_141 : decode prog_9_method_37_code 141 = .ok (.invokevirtual 221, 3) := by decide +kernel
theorem dR_change_144 : decode prog_9_method_37_code 144 = .ok (.istore 6, 2) := by decide +kernel
theorem dR_change_146 : decode prog_9_method_37_code 146 = .ok (.aload_n 0, 1) := by decide +kernel
theorem dR_change_147 : decode prog_9_method_37_code 147 = .ok (.getfield 41, 3) := by decide +kernel
theorem dR_change_150 : decode prog_9_method_37_code 150 = .ok (.iload_n 3, 1) := by decide +kernel
theorem dR_change_151 : decode prog_9_method_37_code 151 = .ok (.aload_n 0, 1) := by decide +kernel
theorem dR_change_152 : decode prog_9_method_37_code 152 = .ok (.iconst 5, 1) := by decide +kernel
theorem dR_change_153 : decode prog_9_method_37_code 153 = .ok (.iload 6, 2) := by decide +kernel
theorem dR_change_155 : decode prog_9_method_37_code 155 = .ok (.iconst 0, 1) := by decide +kernel
theorem dR_change_156 : decode prog_9_method_37_code 156 = .ok (.invokevirtual 221, 3) := by decide +kernel
theorem dR_change_159 : decode prog_9_method_37_code 159 = .ok (.iastore, 1) := by decide +kernel
theorem dR_change_160 : decode prog_9_method_37_code 160 = .ok (.aload_n 0, 1) := by decide +kernel
theorem dR_change_161 : decode prog_9_method_37_code 161 = .ok (.iload_n 3, 1) := by decide +kernel
theorem dR_change_162 : decode prog_9_method_37_code 162 = .ok (.iload 6, 2) := by decide +kernel
theorem dR_change_164 : decode prog_9_method_37_code 164 = .ok (.invokevirtual 257, 3) := by decide +kernel
theorem dR_change_167 : decode prog_9_method_37_code 167 = .ok (.aload_n 0, 1) := by decide +kernel
theorem dR_change_168 : decode prog_9_method_37_code 168 = .ok (.dup, 1) := by decide +kernel
theorem dR_change_169 : decode prog_9_method_37_code 169 = .ok (.getfield 151, 3) := by decide +kernel
theorem dR_change_172 : decode prog_9_method_37_code 172 = .ok (.iconst 1, 1) := by decide +kernel
theorem dR_change_173 : decode prog_9_method_37_code 173 = .ok (.iadd, 1) := by decide +kernel
theorem dR_change_174 : decode prog_9_method_37_code 174 = .ok (.putfield 151, 3) := by decide +kernel
theorem dR_change_177 : decode prog_9_method_37_code 177 = .ok (.iconst 0, 1) := by decide +kernel
theorem dR_change_178 : decode prog_9_method_37_code 178 = .ok (.istore 7, 2) := by decide +kernel
theorem dR_change_180 : decode prog_9_method_37_code 180 = .ok (.iload 7, 2) := by decide +kernel
theorem dR_change_182 : decode prog_9_method_37_code 182 = .ok (.bipush 16, 2) := by decide +kernel
end
section
theorem dR_change_184 : decode prog_9_method_37_code 184 = .ok (.if_icmp .ge 48, 3) := by decide +kernel
theorem dR_change_187 : decode prog_9_method_37_code 187 = .ok (.aload_n 0, 1) := by decide +kernel
theorem dR_change_188 : decode prog_9_method_37_code 188 = .ok (.getfield 80, 3) := by decide +kernel
theorem dR_change_191 : decode prog_9_method_37_code 191 = .ok (.iload 7, 2) := by decide +kernel
theorem dR_change_193 : decode prog_9_method_37_code 193 = .ok (.iaload, 1) := by decide +kernel
theorem dR_change_194 : decode prog_9_method_37_code 194 = .ok (.iload_n 3, 1) := by decide +kernel
theorem dR_change_195 : decode prog_9_method_37_code 195 = .ok (.iconst 1, 1) := by decide +kernel
theorem dR_change_196 : decode prog_9_method_37_code 196 = .ok (.isub, 1) := by decide +kernel
theorem dR_change_197 : decode prog_9_method_37_code 197 = .ok (.if_icmp .ne 29, 3) := by decide +kernel
theorem dR_change_200 : decode prog_9_method_37_code 200 = .ok (.aload_n 0, 1) := by decide +kernel
theorem dR_change_201 : decode prog_9_method_37_code 201 = .ok (.getfield 50, 3) := by decide +kernel
theorem dR_change_204 : decode prog_9_method_37_code 204 = .ok (.iload_n 3, 1) := by decide +kernel
theorem dR_change_205 : decode prog_9_method_37_code 205 = .ok (.iaload, 1) := by decide +kernel
theorem dR_change_206 : decode prog_9_method_37_code 206 = .ok (.aload_n 0, 1) := by decide +kernel
theorem dR_change_207 : decode prog_9_method_37_code 207 = .ok (.getfield 83, 3) := by decide +kernel
theorem dR_change_210 : decode prog_9_method_37_code 210 = .ok (.iload 7, 2) := by decide +kernel
theorem dR_change_212 : decode prog_9_method_37_code 212 = .ok (.iaload, 1) := by decide +kernel
theorem dR_change_213 : decode prog_9_method_37_code 213 = .ok (.ishr, 1) := by decide +kernel
theorem dR_change_214 : decode prog_9_method_37_code 214 = .ok (.iconst 1, 1) := by decide +kernel
theorem dR_change_215 : decode prog_9_method_37_code 215 = .ok (.iand, 1) := by decide +kernel
theorem dR_change_216 : decode prog_9_method_37_code 216 = .ok (.iconst 1, 1) := by decide +kernel
theorem dR_change_217 : decode prog_9_method_37_code 217 = .ok (.if_icmp .ne 9, 3) := by decide +kernel
theorem dR_change_220 : decode prog_9_method_37_code 220 = .ok (.aload_n 0, 1) := by decide +kernel
theorem dR_change_221 : decode prog_9_method_37_code 221 = .ok (.iload 7, 2) := by decide +kernel
theorem dR_change_223 : decode prog_9_method_37_code 223 = .ok (.invokevirtual 147, 3) := by decide +kernel
theorem dR_change_226 : decode prog_9_method_37_code 226 = .ok (.iinc 7 1, 3) := by decide +kernel
theorem dR_change_229 : decode prog_9_method_37_code 229 = .ok (.goto (-49), 3) := by decide +kernel
theorem dR_change_232 : decode prog_9_method_37_code 232 = .ok (.aload_n 0, 1) := by decide +kernel
theorem dR_change_233 : decode prog_9_method_37_code 233 = .ok (.iload_n 1, 1) := by decide +kernel
theorem dR_change_234 : decode prog_9_method_37_code 234 = .ok (.iload_n 3, 1) := by decide +kernel
theorem dR_change_235 : decode prog_9_method_37_code 235 = .ok (.aload_n 0, 1) := by decide +kernel
theorem dR_change_236 : decode prog_9_method_37_code 236 = .ok (.getfield 62, 3) := by decide +kernel
theorem dR_change_239 : decode prog_9_method_37_code 239 = .ok (.iload_n 3, 1) := by decide +kernel
theorem dR_change_240 : decode prog_9_method_37_code 240 = .ok (.baload, 1) := by decide +kernel
theorem dR_change_241 : decode prog_9_method_37_code 241 = .ok (.invokevirtual 260, 3) := by decide +kernel
theorem dR_change_244 : decode prog_9_method_37_code 244 = .ok (.aload_n 0, 1) := by decide +kernel
theorem dR_change_245 : decode prog_9_method_37_code 245 = .ok (.iconst 0, 1) := by decide +kernel
theorem dR_change_246 : decode prog_9_method_37_code 246 = .ok (.putfield 195, 3) := by decide +kernel
theorem dR_change_249 : decode prog_9_method_37_code 249 = .ok (.return_, 1) := by decide +kernel
theorem dR_copyTree_0 : decode prog_9_method_23_code 0 = .ok (.aload_n 0, 1) := by decide +kernel
theorem dR_copyTree_1 : decode prog_9_method_23_code 1 = .ok (.getfield 38, 3) := by decide +kernel
theorem dR_copyTree_4 : decode prog_9_method_23_code 4 = .ok (.iload_n 2, 1) := by decide +kernel
theorem dR_copyTree_5 : decode prog_9_method_23_code 5 = .ok (.aload_n 0, 1) := by decide +kernel
theorem dR_copyTree_6 : decode prog_9_method_23_code 6 = .ok (.getfield 38, 3) := by decide +kernel
theorem dR_copyTree_9 : decode prog_9_method_23_code 9 = .ok (.iload_n 1, 1) := by decide +kernel
theorem dR_copyTree_10 : decode prog_9_method_23_code 10 = .ok (.iaload, 1) := by decide +kernel
theorem dR_copyTree_11 : decode prog_9_method_23_code 11 = .ok (.iastore, 1) := by decide +kernel
theorem dR_copyTree_12 : decode prog_9_method_23_code 12 = .ok (.iconst 0, 1) := by decide +kernel
theorem dR_copyTree_13 : decode prog_9_method_23_code 13 = .ok (.istore_n 3, 1) := by decide +kernel
theorem dR_copyTree_14 : decode prog_9_method_23_code 14 = .ok (.iload_n 3, 1) := by decide +kernel
theorem dR_copyTree_15 : decode prog_9_method_23_code 15 = .ok (.bipush 31, 2) := by decide +kernel
theorem dR_copyTree_17 : decode prog_9_method_23_code 17 = .ok (.if_icmp .ge 113, 3) := by decide +kernel
theorem dR_copyTree_20 : decode prog_9_method_23_code 20 = .ok (.aload_n 0, 1) := by decide +kernel
theorem dR_copyTree_21 : decode prog_9_method_23_code 21 = .ok (.getfield 65, 3) := by decide +kernel
theorem dR_copyTree_24 : decode prog_9_method_23_code 24 = .ok (.bipush 31, 2) := by decide +kernel
theorem dR_copyTree_26 : decode prog_9_method_23_code 26 = .ok (.iload_n 2, 1) := by decide +kernel
theorem dR_copyTree_27 : decode prog_9_method_23_code 27 = .ok (.imul, 1) := by decide +kernel
theorem dR_copyTree_28 : decode prog_9_method_23_code 28 = .ok (.iload_n 3, 1) := by decide +kernel
theorem dR_copyTree_29 : decode prog_9_method_23_code 29 = .ok (.iadd, 1) := by decide +kernel
theorem dR_copyTree_30 : decode prog_9_method_23_code 30 = .ok (.iload_n 3, 1) := by decide +kernel
theorem dR_copyTree_31 : decode prog_9_method_23_code 31 = .ok (.aload_n 0, 1) := by decide +kernel
theorem dR_copyTree_32 : decode prog_9_method_23_code 32 = .ok (.iload_n 1, 1) := by decide +kernel
theorem dR_copyTree_33 : decode prog_9_method_23_code 33 = .ok (.invokevirtual 192, 3) := by decide +kernel
theorem dR_copyTree_36 : decode prog_9_method_23_code 36 = .ok (.if_icmp .ge 17, 3) := by decide +kernel
theorem dR_copyTree_39 : decode prog_9_method_23_code 39 = .ok (.aload_n 0, 1) := by decide +kernel
theorem dR_copyTree_40 : decode prog_9_method_23_code 40 = .ok (.getfield 65, 3) := by decide +kernel
theorem dR_copyTree_43 : decode prog_9_method_23_code 43 = .ok (.bipush 31, 2) := by decide +kernel
theorem dR_copyTree_45 : decode prog_9_method_23_code 45 = .ok (.iload_n 1, 1) := by decide +kernel
theorem dR_copyTree_46 : decode prog_9_method_23_code 46 = .ok (.imul, 1) := by decide +kernel
theorem dR_copyTree_47 : decode prog_9_method_23_code 47 = .ok (.iload_n 3, 1) := by decide +kernel
theorem dR_copyTree_48 : decode prog_9_method_23_code 48 = .ok (.iadd, 1) := by decide +kernel
theorem dR_copyTree_49 : decode prog_9_method_23_code 49 = .ok (.iaload, 1) := by decide +kernel
theorem dR_copyTree_50 : decode prog_9_method_23_code 50 = .ok (.goto 4, 3) := by decide +kernel
theorem dR_copyTree_53 : decode prog_9_method_23_code 53 = .ok (.iconst (-1), 1) := by decide +kernel
theorem dR_copyTree_54 : decode prog_9_method_23_code 54 = .ok (.iastore, 1) := by decide +kernel
theorem dR_copyTree_55 : decode prog_9_method_23_code 55 = .ok (.aload_n 0, 1) := by decide +kernel
theorem dR_copyTree_56 : decode prog_9_method_23_code 56 = .ok (.getfield 68, 3) := by decide +kernel
theorem dR_copyTree_59 : decode prog_9_method_23_code 59 = .ok (.bipush 31, 2) := by decide +kernel
theorem dR_copyTree_61 : decode prog_9_method_23_code 61 = .ok (.iload_n 2, 1) := by decide +kernel
theorem dR_copyTree_62 : decode prog_9_method_23_code 62 = .ok (.imul, 1) := by decide +kernel
theorem dR_copyTree_63 : decode prog_9_method_23_code 63 = .ok (.iload_n 3, 1) := by decide +kernel
theorem dR_copyTree_64 : decode prog_9_method_23_code 64 = .ok (.iadd, 1) := by decide +kernel
theorem dR_copyTree_65 : decode prog_9_method_23_code 65 = .ok (.iload_n 3, 1) := by decide +kernel
theorem dR_copyTree_66 : decode prog_9_method_23_code 66 = .ok (.aload_n 0, 1) := by decide +kernel
theorem dR_copyTree_67 : decode prog_9_method_23_code 67 = .ok (.iload_n 1, 1) := by decide +kernel
theorem dR_copyTree_68 : decode prog_9_method_23_code 68 = .ok (.invokevirtual 192, 3) := by decide +kernel
theorem dR_copyTree_71 : decode prog_9_method_23_code 71 = .ok (.if_icmp .ge 17, 3) := by decide +kernel
theorem dR_copyTree_74 : decode prog_9_method_23_code 74 = .ok (.aload_n 0, 1) := by decide +kernel
theorem dR_copyTree_75 : decode prog_9_method_23_code 75 = .ok (.getfield 68, 3) := by decide +kernel
theorem dR_copyTree_78 : decode prog_9_method_23_code 78 = .ok (.bipush 31, 2) := by decide +kernel
theorem dR_copyTree_80 : decode prog_9_method_23_code 80 = .ok (.iload_n 1, 1) := by decide +kernel
theorem dR_copyTree_81 : decode prog_9_method_23_code 81 = .ok (.imul, 1) := by decide +kernel
theorem dR_copyTree_82 : decode prog_9_method_23_code 82 = .ok (.iload_n 3, 1) := by decide +kernel
theorem dR_copyTree_83 : decode prog_9_method_23_code 83 = .ok (.iadd, 1) := by decide +kernel
theorem dR_copyTree_84 : decode prog_9_method_23_code 84 = .ok (.iaload, 1) := by decide +kernel
theorem dR_copyTree_85 : decode prog_9_method_23_code 85 = .ok (.goto 4, 3) := by decide +kernel
theorem dR_copyTree_88 : decode prog_9_method_23_code 88 = .ok (.iconst 0, 1) := by decide +kernel
theorem dR_copyTree_89 : decode prog_9_method_23_code 89 = .ok (.iastore, 1) := by decide +kernel
theorem dR_copyTree_90 : decode prog_9_method_23_code 90 = .ok (.aload_n 0, 1) := by decide +kernel
theorem dR_copyTree_91 : decode prog_9_method_23_code 91 = .ok (.getfield 71, 3) := by decide +kernel
theorem dR_copyTree_94 : decode prog_9_method_23_code 94 = .ok (.bipush 31, 2) := by decide +kernel
theorem dR_copyTree_96 : decode prog_9_method_23_code 96 = .ok (.iload_n 2, 1) := by decide +kernel
theorem dR_copyTree_97 : decode prog_9_method_23_code 97 = .ok (.imul, 1) := by decide +kernel
theorem dR_copyTree_98 : decode prog_9_method_23_code 98 = .ok (.iload_n 3, 1) := by decide +kernel
theorem dR_copyTree_99 : decode prog_9_method_23_code 99 = .ok (.iadd, 1) := by decide +kernel
theorem dR_copyTree_100 : decode prog_9_method_23_code 100 = .ok (.aload_n 0, 1) := by decide +kernel
theorem dR_copyTree_101 : decode prog_9_method_23_code 101 = .ok (.getfield 71, 3) := by decide +kernel
theorem dR_copyTree_104 : decode prog_9_method_23_code 104 = .ok (.bipush 31, 2) := by decide +kernel
theorem dR_copyTree_106 : decode prog_9_method_23_code 106 = .ok (.iload_n 1, 1) := by decide +kernel
theorem dR_copyTree_107 : decode prog_9_method_23_code 107 = .ok (.imul, 1) := by decide +kernel
theorem dR_copyTree_108 : decode prog_9_method_23_code 108 = .ok (.iload_n 3, 1) := by decide +kernel
theorem dR_copyTree_109 : decode prog_9_method_23_code 109 = .ok (.iadd, 1) := by decide +kernel
theorem dR_copyTree_110 : decode prog_9_method_23_code 110 = .ok (.iaload, 1) := by decide +kernel
theorem dR_copyTree_111 : decode prog_9_method_23_code 111 = .ok (.iastore, 1) := by decide +kernel
theorem dR_copyTree_112 : decode prog_9_method_23_code 112 = .ok (.aload_n 0, 1) := by decide +kernel
theorem dR_copyTree_113 : decode prog_9_method_23_code 113 = .ok (.getfield 74, 3) := by decide +kernel
theorem dR_copyTree_116 : decode prog_9_method_23_code 116 = .ok (.bipush 31, 2) := by decide +kernel
theorem dR_copyTree_118 : decode prog_9_method_23_code 118 = .ok (.iload_n 2, 1) := by decide +kernel
theorem dR_copyTree_119 : decode prog_9_method_23_code 119 = .ok (.imul, 1) := by decide +kernel
theorem dR_copyTree_120 : decode prog_9_method_23_code 120 = .ok (.iload_n 3, 1) := by decide +kernel
theorem dR_copyTree_121 : decode prog_9_method_23_code 121 = .ok (.iadd, 1) := by decide +kernel
theorem dR_copyTree_122 : decode prog_9_method_23_code 122 = .ok (.iconst (-1), 1) := by decide +kernel
theorem dR_copyTree_123 : decode prog_9_method_23_code 123 = .ok (.iastore, 1) := by decide +kernel
theorem dR_copyTree_124 : decode prog_9_method_23_code 124 = .ok (.iinc 3 1, 3) := by decide +kernel
theorem dR_copyTree_127 : decode prog_9_method_23_code 127 = .ok (.goto (-113), 3) := by decide +kernel
theorem dR_copyTree_130 : decode prog_9_method_23_code 130 = .ok (.iconst 0, 1) := by decide +kernel
theorem dR_copyTree_131 : decode prog_9_method_23_code 131 = .ok (.istore_n 3, 1) := by decide +kernel
theorem dR_copyTree_132 : decode prog_9_method_23_code 132 = .ok (.iload_n 3, 1) := by decide +kernel
theorem dR_copyTree_133 : decode prog_9_method_23_code 133 = .ok (.bipush 16, 2) := by decide +kernel
theorem dR_copyTree_135 : decode prog_9_method_23_code 135 = .ok (.if_icmp .ge 31, 3) := by decide +kernel
theorem dR_copyTree_138 : decode prog_9_method_23_code 138 = .ok (.aload_n 0, 1) := by decide +kernel
theorem dR_copyTree_139 : decode prog_9_method_23_code 139 = .ok (.getfield 77, 3) := by decide +kernel
theorem dR_copyTree_142 : decode prog_9_method_23_code 142 = .ok (.bipush 16, 2) := by decide +kernel
theorem dR_copyTree_144 : decode prog_9_method_23_code 144 = .ok (.iload_n 2, 1) := by decide +kernel
theorem dR_copyTree_145 : decode prog_9_method_23_code 145 = .ok (.imul, 1) := by decide +kernel
theorem dR_copyTree_146 : decode prog_9_method_23_code 146 = .ok (.iload_n 3, 1) := by decide +kernel
theorem dR_copyTree_147 : decode prog_9_method_23_code 147 = .ok (.iadd, 1) := by decide +kernel
theorem dR_copyTree_148 : decode prog_9_method_23_code 148 = .ok (.aload_n 0, 1) := by decide +kernel
theorem dR_copyTree_149 : decode prog_9_method_23_code 149 = .ok (.getfield 77, 3) := by decide +kernel
theorem dR_copyTree_152 : decode prog_9_method_23_code 152 = .ok (.bipush 16, 2) := by decide +kernel
theorem dR_copyTree_154 : decode prog_9_method_23_code 154 = .ok (.iload_n 1, 1) := by decide +kernel
theorem dR_copyTree_155 : decode prog_9_method_23_code 155 = .ok (.imul, 1) := by decide +kernel
theorem dR_copyTree_156 : decode prog_9_method_23_code 156 = .ok (.iload_n 3, 1) := by decide +kernel
theorem dR_copyTree_157 : decode prog_9_method_23_code 157 = .ok (.iadd, 1) := by decide +kernel
theorem dR_copyTree_158 : decode prog_9_method_23_code 158 = .ok (.iaload, 1) := by decide +kernel
theorem dR_copyTree_159 : decode prog_9_method_23_code 159 = .ok (.iastore, 1) := by decide +kernel
theorem dR_copyTree_160 : decode prog_9_method_23_code 160 = .ok (.iinc 3 1, 3) := by decide +kernel
theorem dR_copyTree_163 : decode prog_9_method_23_code 163 = .ok (.goto (-31), 3) := by decide +kernel
theorem dR_copyTree_166 : decode prog_9_method_23_code 166 = .ok (.return_, 1) := by decide +kernel
theorem dR_width_0 : decode prog_9_method_11_code 0 = .ok (.iconst 2, 1) := by decide +kernel
theorem dR_width_1 : decode prog_9_method_11_code 1 = .ok (.aload_n 0, 1) := by decide +kernel
theorem dR_width_2 : decode prog_9_method_11_code 2 = .ok (.getfield 38, 3) := by decide +kernel
theorem dR_width_5 : decode prog_9_method_11_code 5 = .ok (.iload_n 1, 1) := by decide +kernel
theorem dR_width_6 : decode prog_9_method_11_code 6 = .ok (.iaload, 1) := by decide +kernel
theorem dR_width_7 : decode prog_9_method_11_code 7 = .ok (.ishl, 1) := by decide +kernel
theorem dR_width_8 : decode prog_9_method_11_code 8 = .ok (.iconst 1, 1) := by decide +kernel
theorem dR_width_9 : decode prog_9_method_11_code 9 = .ok (.isub, 1) := by decide +kernel
theorem dR_width_10 : decode prog_9_method_11_code 10 = .ok (.ireturn, 1) := by decide +kernel
theorem dR_findRemoves_0 : decode prog_9_method_24_code 0 = .ok (.iconst 0, 1) := by decide +kernel
theorem dR_findRemoves_1 : decode prog_9_method_24_code 1 = .ok (.istore_n 3, 1) := by decide +kernel
theorem dR_findRemoves_2 : decode prog_9_method_24_code 2 = .ok (.iload_n 3, 1) := by decide +kernel
theorem dR_findRemoves_3 : decode prog_9_method_24_code 3 = .ok (.aload_n 0, 1) := by decide +kernel
theorem dR_findRemoves_4 : decode prog_9_method_24_code 4 = .ok (.getfield 195, 3) := by decide +kernel
theorem dR_findRemoves_7 : decode prog_9_method_24_code 7 = .ok (.if_icmp .ge 81, 3) := by decide +kernel
theorem dR_findRemoves_10 : decode prog_9_method_24_code 10 = .ok (.aload_n 0, 1) := by decide +kernel
theorem dR_findRemoves_11 : decode prog_9_method_24_code 11 = .ok (.getfield 128, 3) := by decide +kernel
theorem dR_findRemoves_14 : decode prog_9_method_24_code 14 = .ok (.iload_n 3, 1) := by decide +kernel
theorem dR_findRemoves_15 : decode prog_9_method_24_code 15 = .ok (.iaload, 1) := by decide +kernel
theorem dR_findRemoves_16 : decode prog_9_method_24_code 16 = .ok (.istore 4, 2) := by decide +kernel
theorem dR_findRemoves_18 : decode prog_9_method_24_code 18 = .ok (.aload_n 0, 1) := by decide +kernel
theorem dR_findRemoves_19 : decode prog_9_method_24_code 19 = .ok (.getfield 122, 3) := by decide +kernel
theorem dR_findRemoves_22 : decode prog_9_method_24_code 22 = .ok (.iload_n 3, 1) := by decide +kernel
theorem dR_findRemoves_23 : decode prog_9_method_24_code 23 = .ok (.iaload, 1) := by decide +kernel
theorem dR_findRemoves_24 : decode prog_9_method_24_code 24 = .ok (.iconst 1, 1) := by decide +kernel
theorem dR_findRemoves_25 : decode prog_9_method_24_code 25 = .ok (.if_icmp .ne 57, 3) := by decide +kernel
theorem dR_findRemoves_28 : decode prog_9_method_24_code 28 = .ok (.iload 4, 2) := by decide +kernel
theorem dR_findRemoves_30 : decode prog_9_method_24_code 30 = .ok (.iconst 1, 1) := by decide +kernel
theorem dR_findRemoves_31 : decode prog_9_method_24_code 31 = .ok (.aload_n 0, 1) := by decide +kernel
theorem dR_findRemoves_32 : decode prog_9_method_24_code 32 = .ok (.getfield 38, 3) := by decide +kernel
theorem dR_findRemoves_35 : decode prog_9_method_24_code 35 = .ok (.iload_n 1, 1) := by decide +kernel
theorem dR_findRemoves_36 : decode prog_9_method_24_code 36 = .ok (.iconst 1, 1) := by decide +kernel
theorem dR_findRemoves_37 : decode prog_9_method_24_code 37 = .ok (.isub, 1) := by decide +kernel
theorem dR_findRemoves_38 : decode prog_9_method_24_code 38 = .ok (.iaload, 1) := by decide +kernel
theorem dR_findRemoves_39 : decode prog_9_method_24_code 39 = .ok (.ishl, 1) := by decide +kernel
theorem dR_findRemoves_40 : decode prog_9_method_24_code 40 = .ok (.if_icmp .ge 42, 3) := by decide +kernel
theorem dR_findRemoves_43 : decode prog_9_method_24_code 43 = .ok (.aload_n 0, 1) := by decide +kernel
theorem dR_findRemoves_44 : decode prog_9_method_24_code 44 = .ok (.getfield 65, 3) := by decide +kernel
theorem dR_findRemoves_47 : decode prog_9_method_24_code 47 = .ok (.bipush 31, 2) := by decide +kernel
theorem dR_findRemoves_49 : decode prog_9_method_24_code 49 = .ok (.iload_n 1, 1) := by decide +kernel
theorem dR_findRemoves_50 : decode prog_9_method_24_code 50 = .ok (.iconst 1, 1) := by decide +kernel
theorem dR_findRemoves_51 : decode prog_9_method_24_code 51 = .ok (.isub, 1) := by decide +kernel
theorem dR_findRemoves_52 : decode prog_9_method_24_code 52 = .ok (.imul, 1) := by decide +kernel
theorem dR_findRemoves_53 : decode prog_9_method_24_code 53 = .ok (.iconst 2, 1) := by decide +kernel
theorem dR_findRemoves_54 : decode prog_9_method_24_code 54 = .ok (.iload 4, 2) := by decide +kernel
theorem dR_findRemoves_56 : decode prog_9_method_24_code 56 = .ok (.imul, 1) := by decide +kernel
theorem dR_findRemoves_57 : decode prog_9_method_24_code 57 = .ok (.iadd, 1) := by decide +kernel
theorem dR_findRemoves_58 : decode prog_9_method_24_code 58 = .ok (.iaload, 1) := by decide +kernel
theorem dR_findRemoves_59 : decode prog_9_method_24_code 59 = .ok (.iconst (-1), 1) := by decide +kernel
theorem dR_findRemoves_60 : decode prog_9_method_24_code 60 = .ok (.if_icmp .eq 22, 3) := by decide +kernel
theorem dR_findRemoves_63 : decode prog_9_method_24_code 63 = .ok (.iload 4, 2) := by decide +kernel
theorem dR_findRemoves_65 : decode prog_9_method_24_code 65 = .ok (.iload_n 2, 1) := by decide +kernel
theorem dR_findRemoves_66 : decode prog_9_method_24_code 66 = .ok (.if_icmp .eq 16, 3) := by decide +kernel
theorem dR_findRemoves_69 : decode prog_9_method_24_code 69 = .ok (.aload_n 0, 1) := by decide +kernel
theorem dR_findRemoves_70 : decode prog_9_method_24_code 70 = .ok (.getfield 50, 3) := by decide +kernel
theorem dR_findRemoves_73 : decode prog_9_method_24_code 73 = .ok (.iload_n 1, 1) := by decide +kernel
theorem dR_findRemoves_74 : decode prog_9_method_24_code 74 = .ok (.dup2, 1) := by decide +kernel
theorem dR_findRemoves_75 : decode prog_9_method_24_code 75 = .ok (.iaload, 1) := by decide +kernel
theorem dR_findRemoves_76 : decode prog_9_method_24_code 76 = .ok (.iconst 1, 1) := by decide +kernel
theorem dR_findRemoves_77 : decode prog_9_method_24_code 77 = .ok (.iload 4, 2) := by decide +kernel
theorem dR_findRemoves_79 : decode prog_9_method_24_code 79 = .ok (.ishl, 1) := by decide +kernel
theorem dR_findRemoves_80 : decode prog_9_method_24_code 80 = .ok (.ior, 1) := by decide +kernel
theorem dR_findRemoves_81 : decode prog_9_method_24_code 81 = .ok (.iastore, 1) := by decide +kernel
theorem dR_findRemoves_82 : decode prog_9_method_24_code 82 = .ok (.iinc 3 1, 3) := by decide +kernel
theorem dR_findRemoves_85 : decode prog_9_method_24_code 85 = .ok (.goto (-83), 3) := by decide +kernel
theorem dR_findRemoves_88 : decode prog_9_method_24_code 88 = .ok (.return_, 1) := by decide +kernel
theorem dR_findUpdates_0 : decode prog_9_method_25_code 0 = .ok (.iconst 0, 1) := by decide +kernel
theorem dR_findUpdates_1 : decode prog_9_method_25_code 1 = .ok (.istore_n 3, 1) := by decide +kernel
theorem dR_findUpdates_2 : decode prog_9_method_25_code 2 = .ok (.iload_n 3, 1) := by decide +kernel
theorem dR_findUpdates_3 : decode prog_9_method_25_code 3 = .ok (.aload_n 0, 1) := by decide +kernel
theorem dR_findUpdates_4 : decode prog_9_method_25_code 4 = .ok (.getfield 195, 3) := by decide +kernel
theorem dR_findUpdates_7 : decode prog_9_method_25_code 7 = .ok (.if_icmp .ge 82, 3) := by decide +kernel
theorem dR_findUpdates_10 : decode prog_9_method_25_code 10 = .ok (.aload_n 0, 1) := by decide +kernel
theorem dR_findUpdates_11 : decode prog_9_method_25_code 11 = .ok (.getfield 83, 3) := by decide +kernel
theorem dR_findUpdates_14 : decode prog_9_method_25_code 14 = .ok (.aload_n 0, 1) := by decide +kernel
theorem dR_findUpdates_15 : decode prog_9_method_25_code 15 = .ok (.getfield 125, 3) := by decide +kernel
theorem dR_findUpdates_18 : decode prog_9_method_25_code 18 = .ok (.iload_n 3, 1) := by decide +kernel
theorem dR_findUpdates_19 : decode prog_9_method_25_code 19 = .ok (.iaload, 1) := by decide +kernel
theorem dR_findUpdates_20 : decode prog_9_method_25_code 20 = .ok (.iaload, 1) := by decide +kernel
theorem dR_findUpdates_21 : decode prog_9_method_25_code 21 = .ok (.istore 4, 2) := by decide +kernel
theorem dR_findUpdates_23 : decode prog_9_method_25_code 23 = .ok (.aload_n 0, 1) := by decide +kernel
theorem dR_findUpdates_24 : decode prog_9_method_25_code 24 = .ok (.getfield 122, 3) := by decide +kernel
theorem dR_findUpdates_27 : decode prog_9_method_25_code 27 = .ok (.iload_n 3, 1) := by decide +kernel
theorem dR_findUpdates_28 : decode prog_9_method_25_code 28 = .ok (.iaload, 1) := by decide +kernel
theorem dR_findUpdates_29 : decode prog_9_method_25_code 29 = .ok (.iconst 2, 1) := by decide +kernel
theorem dR_findUpdates_30 : decode prog_9_method_25_code 30 = .ok (.if_icmp .ne 53, 3) := by decide +kernel
theorem dR_findUpdates_33 : decode prog_9_method_25_code 33 = .ok (.iload 4, 2) := by decide +kernel
theorem dR_findUpdates_35 : decode prog_9_method_25_code 35 = .ok (.iload_n 2, 1) := by decide +kernel
theorem dR_findUpdates_36 : decode prog_9_method_25_code 36 = .ok (.if_icmp .eq 47, 3) := by decide +kernel
theorem dR_findUpdates_39 : decode prog_9_method_25_code 39 = .ok (.aload_n 0, 1) := by decide +kernel
theorem dR_findUpdates_40 : decode prog_9_method_25_code 40 = .ok (.getfield 50, 3) := by decide +kernel
theorem dR_findUpdates_43 : decode prog_9_method_25_code 43 = .ok (.iload_n 1, 1) := by decide +kernel
theorem dR_findUpdates_44 : decode prog_9_method_25_code 44 = .ok (.iaload, 1) := by decide +kernel
theorem dR_findUpdates_45 : decode prog_9_method_25_code 45 = .ok (.iload 4, 2) := by decide +kernel
theorem dR_findUpdates_47 : decode prog_9_method_25_code 47 = .ok (.ishr, 1) := by decide +kernel
theorem dR_findUpdates_48 : decode prog_9_method_25_code 48 = .ok (.iconst 1, 1) := by decide +kernel
theorem dR_findUpdates_49 : decode prog_9_method_25_code 49 = .ok (.iand, 1) := by decide +kernel
theorem dR_findUpdates_50 : decode prog_9_method_25_code 50 = .ok (.iconst 1, 1) := by decide +kernel
theorem dR_findUpdates_51 : decode prog_9_method_25_code 51 = .ok (.if_icmp .ne 6, 3) := by decide +kernel
theorem dR_findUpdates_54 : decode prog_9_method_25_code 54 = .ok (.goto 29, 3) := by decide +kernel
theorem dR_findUpdates_57 : decode prog_9_method_25_code 57 = .ok (.aload_n 0, 1) := by decide +kernel
theorem dR_findUpdates_58 : decode prog_9_method_25_code 58 = .ok (.getfield 53, 3) := by decide +kernel
theorem dR_findUpdates_61 : decode prog_9_method_25_code 61 = .ok (.iload_n 1, 1) := by decide +kernel
theorem dR_findUpdates_62 : decode prog_9_method_25_code 62 = .ok (.dup2, 1) := by decide +kernel
theorem dR_findUpdates_63 : decode prog_9_method_25_code 63 = .ok (.iaload, 1) := by decide +kernel
theorem dR_findUpdates_64 : decode prog_9_method_25_code 64 = .ok (.iconst 1, 1) := by decide +kernel
theorem dR_findUpdates_65 : decode prog_9_method_25_code 65 = .ok (.iload 4, 2) := by decide +kernel
theorem dR_findUpdates_67 : decode prog_9_method_25_code 67 = .ok (.ishl, 1) := by decide +kernel
theorem dR_findUpdates_68 : decode prog_9_method_25_code 68 = .ok (.ior, 1) := by decide +kernel
theorem dR_findUpdates_69 : decode prog_9_method_25_code 69 = .ok (.iastore, 1) := by decide +kernel
theorem dR_findUpdates_70 : decode prog_9_method_25_code 70 = .ok (.aload_n 0, 1) := by decide +kernel
theorem dR_findUpdates_71 : decode prog_9_method_25_code 71 = .ok (.getfield 140, 3) := by decide +kernel
theorem dR_findUpdates_74 : decode prog_9_method_25_code 74 = .ok (.iload 4, 2) := by decide +kernel
theorem dR_findUpdates_76 : decode prog_9_method_25_code 76 = .ok (.aload_n 0, 1) := by decide +kernel
theorem dR_findUpdates_77 : decode prog_9_method_25_code 77 = .ok (.getfield 128, 3) := by decide +kernel
theorem dR_findUpdates_80 : decode prog_9_method_25_code 80 = .ok (.iload_n 3, 1) := by decide +kernel
theorem dR_findUpdates_81 : decode prog_9_method_25_code 81 = .ok (.iaload, 1) := by decide +kernel
theorem dR_findUpdates_82 : decode prog_9_method_25_code 82 = .ok (.iastore, 1) := by decide +kernel
theorem dR_findUpdates_83 : decode prog_9_method_25_code 83 = .ok (.iinc 3 1, 3) := by decide +kernel
theorem dR_findUpdates_86 : decode prog_9_method_25_code 86 = .ok (.goto (-84), 3) := by decide +kernel
theorem dR_findUpdates_89 : decode prog_9_method_25_code 89 = .ok (.return_, 1) := by decide +kernel
theorem dR_doRemoves_0 : decode prog_9_method_26_code 0 = .ok (.iconst 0, 1) := by decide +kernel
theorem dR_doRemoves_1 : decode prog_9_method_26_code 1 = .ok (.istore_n 2, 1) := by decide +kernel
theorem dR_doRemoves_2 : decode prog_9_method_26_code 2 = .ok (.iload_n 2, 1) := by decide +kernel
theorem dR_doRemoves_3 : decode prog_9_method_26_code 3 = .ok (.bipush 16, 2) := by decide +kernel
theorem dR_doRemoves_5 : decode prog_9_method_26_code 5 = .ok (.if_icmp .ge 51, 3) := by decide +kernel
theorem dR_doRemoves_8 : decode prog_9_method_26_code 8 = .ok (.aload_n 0, 1) := by decide +kernel
theorem dR_doRemoves_9 : decode prog_9_method_26_code 9 = .ok (.getfield 50, 3) := by decide +kernel
theorem dR_doRemoves_12 : decode prog_9_method_26_code 12 = .ok (.iload_n 1, 1) := by decide +kernel
theorem dR_doRemoves_13 : decode prog_9_method_26_code 13 = .ok (.iaload, 1) := by decide +kernel
theorem dR_doRemoves_14 : decode prog_9_method_26_code 14 = .ok (.iload_n 2, 1) := by decide +kernel
theorem dR_doRemoves_15 : decode prog_9_method_26_code 15 = .ok (.ishr, 1) := by decide +kernel
theorem dR_doRemoves_16 : decode prog_9_method_26_code 16 = .ok (.iconst 1, 1) := by decide +kernel
theorem dR_doRemoves_17 : decode prog_9_method_26_code 17 = .ok (.iand, 1) := by decide +kernel
theorem dR_doRemoves_18 : decode prog_9_method_26_code 18 = .ok (.ifCond .ne 6, 3) := by decide +kernel
theorem dR_doRemoves_21 : decode prog_9_method_26_code 21 = .ok (.goto 29, 3) := by decide +kernel
theorem dR_doRemoves_24 : decode prog_9_method_26_code 24 = .ok (.aload_n 0, 1) := by decide +kernel
theorem dR_doRemoves_25 : decode prog_9_method_26_code 25 = .ok (.iload_n 1, 1) := by decide +kernel
theorem dR_doRemoves_26 : decode prog_9_method_26_code 26 = .ok (.iconst 2, 1) := by decide +kernel
theorem dR_doRemoves_27 : decode prog_9_method_26_code 27 = .ok (.iload_n 2, 1) := by decide +kernel
theorem dR_doRemoves_28 : decode prog_9_method_26_code 28 = .ok (.imul, 1) := by decide +kernel
theorem dR_doRemoves_29 : decode prog_9_method_26_code 29 = .ok (.invokevirtual 172, 3) := by decide +kernel
theorem dR_doRemoves_32 : decode prog_9_method_26_code 32 = .ok (.aload_n 0, 1) := by decide +kernel
theorem dR_doRemoves_33 : decode prog_9_method_26_code 33 = .ok (.iload_n 1, 1) := by decide +kernel
theorem dR_doRemoves_34 : decode prog_9_method_26_code 34 = .ok (.iload_n 2, 1) := by decide +kernel
theorem dR_doRemoves_35 : decode prog_9_method_26_code 35 = .ok (.invokevirtual 198, 3) := by decide +kernel
theorem dR_doRemoves_38 : decode prog_9_method_26_code 38 = .ok (.aload_n 0, 1) := by decide +kernel
theorem dR_doRemoves_39 : decode prog_9_method_26_code 39 = .ok (.getfield 77, 3) := by decide +kernel
theorem dR_doRemoves_42 : decode prog_9_method_26_code 42 = .ok (.bipush 16, 2) := by decide +kernel
theorem dR_doRemoves_44 : decode prog_9_method_26_code 44 = .ok (.iload_n 1, 1) := by decide +kernel
theorem dR_doRemoves_45 : decode prog_9_method_26_code 45 = .ok (.imul, 1) := by decide +kernel
theorem dR_doRemoves_46 : decode prog_9_method_26_code 46 = .ok (.iload_n 2, 1) := by decide +kernel
theorem dR_doRemoves_47 : decode prog_9_method_26_code 47 = .ok (.iadd, 1) := by decide +kernel
theorem dR_doRemoves_48 : decode prog_9_method_26_code 48 = .ok (.iconst (-1), 1) := by decide +kernel
theorem dR_doRemoves_49 : decode prog_9_method_26_code 49 = .ok (.iastore, 1) := by decide +kernel
theorem dR_doRemoves_50 : decode prog_9_method_26_code 50 = .ok (.iinc 2 1, 3) := by decide +kernel
theorem dR_doRemoves_53 : decode prog_9_method_26_code 53 = .ok (.goto (-51), 3) := by decide +kernel
theorem dR_doRemoves_56 : decode prog_9_method_26_code 56 = .ok (.aload_n 0, 1) := by decide +kernel
theorem dR_doRemoves_57 : decode prog_9_method_26_code 57 = .ok (.getfield 38, 3) := by decide +kernel
theorem dR_doRemoves_60 : decode prog_9_method_26_code 60 = .ok (.iload_n 1, 1) := by decide +kernel
theorem dR_doRemoves_61 : decode prog_9_method_26_code 61 = .ok (.iaload, 1) := by decide +kernel
theorem dR_doRemoves_62 : decode prog_9_method_26_code 62 = .ok (.ifCond .le 48, 3) := by decide +kernel
theorem dR_doRemoves_65 : decode prog_9_method_26_code 65 = .ok (.aload_n 0, 1) := by decide +kernel
theorem dR_doRemoves_66 : decode prog_9_method_26_code 66 = .ok (.iload_n 1, 1) := by decide +kernel
theorem dR_doRemoves_67 : decode prog_9_method_26_code 67 = .ok (.invokevirtual 201, 3) := by decide +kernel
theorem dR_doRemoves_70 : decode prog_9_method_26_code 70 = .ok (.ifCond .eq 40, 3) := by decide +kernel
theorem dR_doRemoves_73 : decode prog_9_method_26_code 73 = .ok (.aload_n 0, 1) := by decide +kernel
theorem dR_doRemoves_74 : decode prog_9_method_26_code 74 = .ok (.getfield 38, 3) := by decide +kernel
theorem dR_doRemoves_77 : decode prog_9_method_26_code 77 = .ok (.iload_n 1, 1) := by decide +kernel
theorem dR_doRemoves_78 : decode prog_9_method_26_code 78 = .ok (.dup2, 1) := by decide +kernel
theorem dR_doRemoves_79 : decode prog_9_method_26_code 79 = .ok (.iaload, 1) := by decide +kernel
theorem dR_doRemoves_80 : decode prog_9_method_26_code 80 = .ok (.iconst 1, 1) := by decide +kernel
theorem dR_doRemoves_81 : decode prog_9_method_26_code 81 = .ok (.isub, 1) := by decide +kernel
theorem dR_doRemoves_82 : decode prog_9_method_26_code 82 = .ok (.iastore, 1) := by decide +kernel
theorem dR_doRemoves_83 : decode prog_9_method_26_code 83 = .ok (.aload_n 0, 1) := by decide +kernel
theorem dR_doRemoves_84 : decode prog_9_method_26_code 84 = .ok (.iload_n 1, 1) := by decide +kernel
theorem dR_doRemoves_85 : decode prog_9_method_26_code 85 = .ok (.invokevirtual 192, 3) := by decide +kernel
theorem dR_doRemoves_88 : decode prog_9_method_26_code 88 = .ok (.istore_n 2, 1) := by decide +kernel
theorem dR_doRemoves_89 : decode prog_9_method_26_code 89 = .ok (.iload_n 2, 1) := by decide +kernel
theorem dR_doRemoves_90 : decode prog_9_method_26_code 90 = .ok (.bipush 31, 2) := by decide +kernel
theorem dR_doRemoves_92 : decode prog_9_method_26_code 92 = .ok (.if_icmp .ge 15, 3) := by decide +kernel
theorem dR_doRemoves_95 : decode prog_9_method_26_code 95 = .ok (.aload_n 0, 1) := by decide +kernel
theorem dR_doRemoves_96 : decode prog_9_method_26_code 96 = .ok (.iload_n 1, 1) := by decide +kernel
theorem dR_doRemoves_97 : decode prog_9_method_26_code 97 = .ok (.iload_n 2, 1) := by decide +kernel
theorem dR_doRemoves_98 : decode prog_9_method_26_code 98 = .ok (.invokevirtual 172, 3) := by decide +kernel
theorem dR_doRemoves_101 : decode prog_9_method_26_code 101 = .ok (.iinc 2 1, 3) := by decide +kernel
theorem dR_doRemoves_104 : decode prog_9_method_26_code 104 = .ok (.goto (-15), 3) := by decide +kernel
theorem dR_doRemoves_107 : decode prog_9_method_26_code 107 = .ok (.goto (-51), 3) := by decide +kernel
theorem dR_doRemoves_110 : decode prog_9_method_26_code 110 = .ok (.return_, 1) := by decide +kernel
theorem dR_blank_0 : decode prog_9_method_12_code 0 = .ok (.aload_n 0, 1) := by decide +kernel
theorem dR_blank_1 : decode prog_9_method_12_code 1 = .ok (.getfield 65, 3) := by decide +kernel
theorem dR_blank_4 : decode prog_9_method_12_code 4 = .ok (.bipush 31, 2) := by decide +kernel
theorem dR_blank_6 : decode prog_9_method_12_code 6 = .ok (.iload_n 1, 1) := by decide +kernel
theorem dR_blank_7 : decode prog_9_method_12_code 7 = .ok (.imul, 1) := by decide +kernel
theorem dR_blank_8 : decode prog_9_method_12_code 8 = .ok (.iload_n 2, 1) := by decide +kernel
theorem dR_blank_9 : decode prog_9_method_12_code 9 = .ok (.iadd, 1) := by decide +kernel
theorem dR_blank_10 : decode prog_9_method_12_code 10 = .ok (.iconst (-1), 1) := by decide +kernel
theorem dR_blank_11 : decode prog_9_method_12_code 11 = .ok (.iastore, 1) := by decide +kernel
theorem dR_blank_12 : decode prog_9_method_12_code 12 = .ok (.aload_n 0, 1) := by decide +kernel
theorem dR_blank_13 : decode prog_9_method_12_code 13 = .ok (.getfield 68, 3) := by decide +kernel
theorem dR_blank_16 : decode prog_9_method_12_code 16 = .ok (.bipush 31, 2) := by decide +kernel
theorem dR_blank_18 : decode prog_9_method_12_code 18 = .ok (.iload_n 1, 1) := by decide +kernel
theorem dR_blank_19 : decode prog_9_method_12_code 19 = .ok (.imul, 1) := by decide +kernel
theorem dR_blank_20 : decode prog_9_method_12_code 20 = .ok (.iload_n 2, 1) := by decide +kernel
theorem dR_blank_21 : decode prog_9_method_12_code 21 = .ok (.iadd, 1) := by decide +kernel
theorem dR_blank_22 : decode prog_9_method_12_code 22 = .ok (.iconst 0, 1) := by decide +kernel
theorem dR_blank_23 : decode prog_9_method_12_code 23 = .ok (.iastore, 1) := by decide +kernel
theorem dR_blank_24 : decode prog_9_method_12_code 24 = .ok (.return_, 1) := by decide +kernel
theorem dR_blankPath_0 : decode prog_9_method_13_code 0 = .ok (.iconst 1, 1) := by decide +kernel
theorem dR_blankPath_1 : decode prog_9_method_13_code 1 = .ok (.istore_n 3, 1) := by decide +kernel
theorem dR_blankPath_2 : decode prog_9_method_13_code 2 = .ok (.iload_n 3, 1) := by decide +kernel
theorem dR_blankPath_3 : decode prog_9_method_13_code 3 = .ok (.aload_n 0, 1) := by decide +kernel
theorem dR_blankPath_4 : decode prog_9_method_13_code 4 = .ok (.getfield 38, 3) := by decide +kernel
theorem dR_blankPath_7 : decode prog_9_method_13_code 7 = .ok (.iload_n 1, 1) := by decide +kernel
theorem dR_blankPath_8 : decode prog_9_method_13_code 8 = .ok (.iaload, 1) := by decide +kernel
theorem dR_blankPath_9 : decode prog_9_method_13_code 9 = .ok (.if_icmp .gt 19, 3) := by decide +kernel
theorem dR_blankPath_12 : decode prog_9_method_13_code 12 = .ok (.aload_n 0, 1) := by decide +kernel
theorem dR_blankPath_13 : decode prog_9_method_13_code 13 = .ok (.iload_n 1, 1) := by decide +kernel
theorem dR_blankPath_14 : decode prog_9_method_13_code 14 = .ok (.iload_n 2, 1) := by decide +kernel
theorem dR_blankPath_15 : decode prog_9_method_13_code 15 = .ok (.iload_n 3, 1) := by decide +kernel
theorem dR_blankPath_16 : decode prog_9_method_13_code 16 = .ok (.invokestatic 168, 3) := by decide +kernel
theorem dR_blankPath_19 : decode prog_9_method_13_code 19 = .ok (.invokevirtual 172, 3) := by decide +kernel
theorem dR_blankPath_22 : decode prog_9_method_13_code 22 = .ok (.iinc 3 1, 3) := by decide +kernel
theorem dR_blankPath_25 : decode prog_9_method_13_code 25 = .ok (.goto (-23), 3) := by decide +kernel
theorem dR_blankPath_28 : decode prog_9_method_13_code 28 = .ok (.return_, 1) := by decide +kernel
theorem dR_above_0 : decode prog_9_method_9_code 0 = .ok (.iload_n 0, 1) := by decide +kernel
theorem dR_above_1 : decode prog_9_method_9_code 1 = .ok (.iload_n 1, 1) := by decide +kernel
theorem dR_above_2 : decode prog_9_method_9_code 2 = .ok (.ishr, 1) := by decide +kernel
theorem dR_above_3 : decode prog_9_method_9_code 3 = .ok (.iload_n 1, 1) := by decide +kernel
theorem dR_above_4 : decode prog_9_method_9_code 4 = .ok (.iconst 1, 1) := by decide +kernel
theorem dR_above_5 : decode prog_9_method_9_code 5 = .ok (.iadd, 1) := by decide +kernel
theorem dR_above_6 : decode prog_9_method_9_code 6 = .ok (.ishl, 1) := by decide +kernel
theorem dR_above_7 : decode prog_9_method_9_code 7 = .ok (.iconst 1, 1) := by decide +kernel
theorem dR_above_8 : decode prog_9_method_9_code 8 = .ok (.iload_n 1, 1) := by decide +kernel
theorem dR_above_9 : decode prog_9_method_9_code 9 = .ok (.ishl, 1) := by decide +kernel
theorem dR_above_10 : decode prog_9_method_9_code 10 = .ok (.iadd, 1) := by decide +kernel
theorem dR_above_11 : decode prog_9_method_9_code 11 = .ok (.iconst 1, 1) := by decide +kernel
theorem dR_above_12 : decode prog_9_method_9_code 12 = .ok (.isub, 1) := by decide +kernel
theorem dR_above_13 : decode prog_9_method_9_code 13 = .ok (.ireturn, 1) := by decide +kernel
theorem dR_isRightBlank_0 : decode prog_9_method_16_code 0 = .ok (.iconst 1, 1) := by decide +kernel
theorem dR_isRightBlank_1 : decode prog_9_method_16_code 1 = .ok (.aload_n 0, 1) := by decide +kernel
theorem dR_isRightBlank_2 : decode prog_9_method_16_code 2 = .ok (.getfield 38, 3) := by decide +kernel
theorem dR_isRightBlank_5 : decode prog_9_method_16_code 5 = .ok (.iload_n 1, 1) := by decide +kernel
theorem dR_isRightBlank_6 : decode prog_9_method_16_code 6 = .ok (.iaload, 1) := by decide +kernel
theorem dR_isRightBlank_7 : decode prog_9_method_16_code 7 = .ok (.iconst 1, 1) := by decide +kernel
theorem dR_isRightBlank_8 : decode prog_9_method_16_code 8 = .ok (.isub, 1) := by decide +kernel
theorem dR_isRightBlank_9 : decode prog_9_method_16_code 9 = .ok (.ishl, 1) := by decide +kernel
theorem dR_isRightBlank_10 : decode prog_9_method_16_code 10 = .ok (.istore_n 2, 1) := by decide +kernel
theorem dR_isRightBlank_11 : decode prog_9_method_16_code 11 = .ok (.iload_n 2, 1) := by decide +kernel
theorem dR_isRightBlank_12 : decode prog_9_method_16_code 12 = .ok (.istore_n 3, 1) := by decide +kernel
theorem dR_isRightBlank_13 : decode prog_9_method_16_code 13 = .ok (.iload_n 3, 1) := by decide +kernel
theorem dR_isRightBlank_14 : decode prog_9_method_16_code 14 = .ok (.iconst 2, 1) := by decide +kernel
theorem dR_isRightBlank_15 : decode prog_9_method_16_code 15 = .ok (.iload_n 2, 1) := by decide +kernel
theorem dR_isRightBlank_16 : decode prog_9_method_16_code 16 = .ok (.imul, 1) := by decide +kernel
theorem dR_isRightBlank_17 : decode prog_9_method_16_code 17 = .ok (.if_icmp .ge 28, 3) := by decide +kernel
theorem dR_isRightBlank_20 : decode prog_9_method_16_code 20 = .ok (.aload_n 0, 1) := by decide +kernel
theorem dR_isRightBlank_21 : decode prog_9_method_16_code 21 = .ok (.getfield 65, 3) := by decide +kernel
theorem dR_isRightBlank_24 : decode prog_9_method_16_code 24 = .ok (.bipush 31, 2) := by decide +kernel
theorem dR_isRightBlank_26 : decode prog_9_method_16_code 26 = .ok (.iload_n 1, 1) := by decide +kernel
theorem dR_isRightBlank_27 : decode prog_9_method_16_code 27 = .ok (.imul, 1) := by decide +kernel
theorem dR_isRightBlank_28 : decode prog_9_method_16_code 28 = .ok (.iconst 2, 1) := by decide +kernel
theorem dR_isRightBlank_29 : decode prog_9_method_16_code 29 = .ok (.iload_n 3, 1) := by decide +kernel
theorem dR_isRightBlank_30 : decode prog_9_method_16_code 30 = .ok (.imul, 1) := by decide +kernel
theorem dR_isRightBlank_31 : decode prog_9_method_16_code 31 = .ok (.iadd, 1) := by decide +kernel
theorem dR_isRightBlank_32 : decode prog_9_method_16_code 32 = .ok (.iaload, 1) := by decide +kernel
theorem dR_isRightBlank_33 : decode prog_9_method_16_code 33 = .ok (.iconst (-1), 1) := by decide +kernel
theorem dR_isRightBlank_34 : decode prog_9_method_16_code 34 = .ok (.if_icmp .eq 5, 3) := by decide +kernel
theorem dR_isRightBlank_37 : decode prog_9_method_16_code 37 = .ok (.iconst 0, 1) := by decide +kernel
theorem dR_isRightBlank_38 : decode prog_9_method_16_code 38 = .ok (.ireturn, 1) := by decide +kernel
theorem dR_isRightBlank_39 : decode prog_9_method_16_code 39 = .ok (.iinc 3 1, 3) := by decide +kernel
theorem dR_isRightBlank_42 : decode prog_9_method_16_code 42 = .ok (.goto (-29), 3) := by decide +kernel
theorem dR_isRightBlank_45 : decode prog_9_method_16_code 45 = .ok (.iconst 1, 1) := by decide +kernel
theorem dR_isRightBlank_46 : decode prog_9_method_16_code 46 = .ok (.ireturn, 1) := by decide +kernel
theorem dR_doUpdates_0 : decode prog_9_method_27_code 0 = .ok (.iconst 0, 1) := by decide +kernel
theorem dR_doUpdates_1 : decode prog_9_method_27_code 1 = .ok (.istore_n 2, 1) := by decide +kernel
theorem dR_doUpdates_2 : decode prog_9_method_27_code 2 = .ok (.iload_n 2, 1) := by decide +kernel
theorem dR_doUpdates_3 : decode prog_9_method_27_code 3 = .ok (.bipush 16, 2) := by decide +kernel
theorem dR_doUpdates_5 : decode prog_9_method_27_code 5 = .ok (.if_icmp .ge 45, 3) := by decide +kernel
theorem dR_doUpdates_8 : decode prog_9_method_27_code 8 = .ok (.aload_n 0, 1) := by decide +kernel
theorem dR_doUpdates_9 : decode prog_9_method_27_code 9 = .ok (.getfield 53, 3) := by decide +kernel
theorem dR_doUpdates_12 : decode prog_9_method_27_code 12 = .ok (.iload_n 1, 1) := by decide +kernel
theorem dR_doUpdates_13 : decode prog_9_method_27_code 13 = .ok (.iaload, 1) := by decide +kernel
theorem dR_doUpdates_14 : decode prog_9_method_27_code 14 = .ok (.iload_n 2, 1) := by decide +kernel
theorem dR_doUpdates_15 : decode prog_9_method_27_code 15 = .ok (.ishr, 1) := by decide +kernel
theorem dR_doUpdates_16 : decode prog_9_method_27_code 16 = .ok (.iconst 1, 1) := by decide +kernel
theorem dR_doUpdates_17 : decode prog_9_method_27_code 17 = .ok (.iand, 1) := by decide +kernel
theorem dR_doUpdates_18 : decode prog_9_method_27_code 18 = .ok (.ifCond .ne 6, 3) := by decide +kernel
theorem dR_doUpdates_21 : decode prog_9_method_27_code 21 = .ok (.goto 23, 3) := by decide +kernel
theorem dR_doUpdates_24 : decode prog_9_method_27_code 24 = .ok (.aload_n 0, 1) := by decide +kernel
theorem dR_doUpdates_25 : decode prog_9_method_27_code 25 = .ok (.iload_n 1, 1) := by decide +kernel
theorem dR_doUpdates_26 : decode prog_9_method_27_code 26 = .ok (.iconst 2, 1) := by decide +kernel
theorem dR_doUpdates_27 : decode prog_9_method_27_code 27 = .ok (.iload_n 2, 1) := by decide +kernel
theorem dR_doUpdates_28 : decode prog_9_method_27_code 28 = .ok (.imul, 1) := by decide +kernel
theorem dR_doUpdates_29 : decode prog_9_method_27_code 29 = .ok (.aload_n 0, 1) := by decide +kernel
theorem dR_doUpdates_30 : decode prog_9_method_27_code 30 = .ok (.getfield 140, 3) := by decide +kernel
theorem dR_doUpdates_33 : decode prog_9_method_27_code 33 = .ok (.iload_n 2, 1) := by decide +kernel
theorem dR_doUpdates_34 : decode prog_9_method_27_code 34 = .ok (.iaload, 1) := by decide +kernel
theorem dR_doUpdates_35 : decode prog_9_method_27_code 35 = .ok (.invokevirtual 204, 3) := by decide +kernel
theorem dR_doUpdates_38 : decode prog_9_method_27_code 38 = .ok (.aload_n 0, 1) := by decide +kernel
theorem dR_doUpdates_39 : decode prog_9_method_27_code 39 = .ok (.iload_n 1, 1) := by decide +kernel
theorem dR_doUpdates_40 : decode prog_9_method_27_code 40 = .ok (.iload_n 2, 1) := by decide +kernel
theorem dR_doUpdates_41 : decode prog_9_method_27_code 41 = .ok (.invokevirtual 198, 3) := by decide +kernel
theorem dR_doUpdates_44 : decode prog_9_method_27_code 44 = .ok (.iinc 2 1, 3) := by decide +kernel
theorem dR_doUpdates_47 : decode prog_9_method_27_code 47 = .ok (.goto (-45), 3) := by decide +kernel
theorem dR_doUpdates_50 : decode prog_9_method_27_code 50 = .ok (.return_, 1) := by decide +kernel
theorem dR_set_0 : decode prog_9_method_14_code 0 = .ok (.aload_n 0, 1) := by decide +kernel
theorem dR_set_1 : decode prog_9_method_14_code 1 = .ok (.getfield 65, 3) := by decide +kernel
theorem dR_set_4 : decode prog_9_method_14_code 4 = .ok (.bipush 31, 2) := by decide +kernel
theorem dR_set_6 : decode prog_9_method_14_code 6 = .ok (.iload_n 1, 1) := by decide +kernel
theorem dR_set_7 : decode prog_9_method_14_code 7 = .ok (.imul, 1) := by decide +kernel
theorem dR_set_8 : decode prog_9_method_14_code 8 = .ok (.iload_n 2, 1) := by decide +kernel
theorem dR_set_9 : decode prog_9_method_14_code 9 = .ok (.iadd, 1) := by decide +kernel
theorem dR_set_10 : decode prog_9_method_14_code 10 = .ok (.iload_n 3, 1) := by decide +kernel
theorem dR_set_11 : decode prog_9_method_14_code 11 = .ok (.iastore, 1) := by decide +kernel
theorem dR_set_12 : decode prog_9_method_14_code 12 = .ok (.aload_n 0, 1) := by decide +kernel
theorem dR_set_13 : decode prog_9_method_14_code 13 = .ok (.getfield 68, 3) := by decide +kernel
theorem dR_set_16 : decode prog_9_method_14_code 16 = .ok (.bipush 31, 2) := by decide +kernel
theorem dR_set_18 : decode prog_9_method_14_code 18 = .ok (.iload_n 1, 1) := by decide +kernel
theorem dR_set_19 : decode prog_9_method_14_code 19 = .ok (.imul, 1) := by decide +kernel
theorem dR_set_20 : decode prog_9_method_14_code 20 = .ok (.iload_n 2, 1) := by decide +kernel
theorem dR_set_21 : decode prog_9_method_14_code 21 = .ok (.iadd, 1) := by decide +kernel
theorem dR_set_22 : decode prog_9_method_14_code 22 = .ok (.iconst 0, 1) := by decide +kernel
theorem dR_set_23 : decode prog_9_method_14_code 23 = .ok (.iastore, 1) := by decide +kernel
theorem dR_set_24 : decode prog_9_method_14_code 24 = .ok (.aload_n 0, 1) := by decide +kernel
theorem dR_set_25 : decode prog_9_method_14_code 25 = .ok (.getfield 71, 3) := by decide +kernel
theorem dR_set_28 : decode prog_9_method_14_code 28 = .ok (.bipush 31, 2) := by decide +kernel
theorem dR_set_30 : decode prog_9_method_14_code 30 = .ok (.iload_n 1, 1) := by decide +kernel
theorem dR_set_31 : decode prog_9_method_14_code 31 = .ok (.imul, 1) := by decide +kernel
theorem dR_set_32 : decode prog_9_method_14_code 32 = .ok (.iload_n 2, 1) := by decide +kernel
theorem dR_set_33 : decode prog_9_method_14_code 33 = .ok (.iadd, 1) := by decide +kernel
theorem dR_set_34 : decode prog_9_method_14_code 34 = .ok (.iload_n 1, 1) := by decide +kernel
theorem dR_set_35 : decode prog_9_method_14_code 35 = .ok (.iastore, 1) := by decide +kernel
theorem dR_set_36 : decode prog_9_method_14_code 36 = .ok (.return_, 1) := by decide +kernel
theorem dR_doAdds_0 : decode prog_9_method_30_code 0 = .ok (.iconst 0, 1) := by decide +kernel
theorem dR_doAdds_1 : decode prog_9_method_30_code 1 = .ok (.istore_n 2, 1) := by decide +kernel
theorem dR_doAdds_2 : decode prog_9_method_30_code 2 = .ok (.iload_n 2, 1) := by decide +kernel
theorem dR_doAdds_3 : decode prog_9_method_30_code 3 = .ok (.aload_n 0, 1) := by decide +kernel
theorem dR_doAdds_4 : decode prog_9_method_30_code 4 = .ok (.getfield 195, 3) := by decide +kernel
theorem dR_doAdds_7 : decode prog_9_method_30_code 7 = .ok (.if_icmp .ge 203, 3) := by decide +kernel
theorem dR_doAdds_10 : decode prog_9_method_30_code 10 = .ok (.aload_n 0, 1) := by decide +kernel
theorem dR_doAdds_11 : decode prog_9_method_30_code 11 = .ok (.getfield 128, 3) := by decide +kernel
theorem dR_doAdds_14 : decode prog_9_method_30_code 14 = .ok (.iload_n 2, 1) := by decide +kernel
theorem dR_doAdds_15 : decode prog_9_method_30_code 15 = .ok (.iaload, 1) := by decide +kernel
theorem dR_doAdds_16 : decode prog_9_method_30_code 16 = .ok (.istore_n 3, 1) := by decide +kernel
theorem dR_doAdds_17 : decode prog_9_method_30_code 17 = .ok (.aload_n 0, 1) := by decide +kernel
theorem dR_doAdds_18 : decode prog_9_method_30_code 18 = .ok (.getfield 122, 3) := by decide +kernel
theorem dR_doAdds_21 : decode prog_9_method_30_code 21 = .ok (.iload_n 2, 1) := by decide +kernel
theorem dR_doAdds_22 : decode prog_9_method_30_code 22 = .ok (.iaload, 1) := by decide +kernel
theorem dR_doAdds_23 : decode prog_9_method_30_code 23 = .ok (.ifCond .ne 181, 3) := by decide +kernel
theorem dR_doAdds_26 : decode prog_9_method_30_code 26 = .ok (.aload_n 0, 1) := by decide +kernel
theorem dR_doAdds_27 : decode prog_9_method_30_code 27 = .ok (.iload_n 1, 1) := by decide +kernel
theorem dR_doAdds_28 : decode prog_9_method_30_code 28 = .ok (.iload_n 3, 1) := by decide +kernel
theorem dR_doAdds_29 : decode prog_9_method_30_code 29 = .ok (.invokevirtual 211, 3) := by decide +kernel
theorem dR_doAdds_32 : decode prog_9_method_30_code 32 = .ok (.ifCond .eq 172, 3) := by decide +kernel
theorem dR_doAdds_35 : decode prog_9_method_30_code 35 = .ok (.aload_n 0, 1) := by decide +kernel
theorem dR_doAdds_36 : decode prog_9_method_30_code 36 = .ok (.iload_n 1, 1) := by decide +kernel
theorem dR_doAdds_37 : decode prog_9_method_30_code 37 = .ok (.invokevirtual 215, 3) := by decide +kernel
theorem dR_doAdds_40 : decode prog_9_method_30_code 40 = .ok (.bipush 16, 2) := by decide +kernel
theorem dR_doAdds_42 : decode prog_9_method_30_code 42 = .ok (.if_icmp .ne 6, 3) := by decide +kernel
theorem dR_doAdds_45 : decode prog_9_method_30_code 45 = .ok (.goto 159, 3) := by decide +kernel
theorem dR_doAdds_48 : decode prog_9_method_30_code 48 = .ok (.aload_n 0, 1) := by decide +kernel
theorem dR_doAdds_49 : decode prog_9_method_30_code 49 = .ok (.iload_n 1, 1) := by decide +kernel
theorem dR_doAdds_50 : decode prog_9_method_30_code 50 = .ok (.invokevirtual 215, 3) := by decide +kernel
theorem dR_doAdds_53 : decode prog_9_method_30_code 53 = .ok (.istore 4, 2) := by decide +kernel
theorem dR_doAdds_55 : decode prog_9_method_30_code 55 = .ok (.iload 4, 2) := by decide +kernel
theorem dR_doAdds_57 : decode prog_9_method_30_code 57 = .ok (.iconst 1, 1) := by decide +kernel
theorem dR_doAdds_58 : decode prog_9_method_30_code 58 = .ok (.aload_n 0, 1) := by decide +kernel
theorem dR_doAdds_59 : decode prog_9_method_30_code 59 = .ok (.getfield 38, 3) := by decide +kernel
theorem dR_doAdds_62 : decode prog_9_method_30_code 62 = .ok (.iload_n 1, 1) := by decide +kernel
theorem dR_doAdds_63 : decode prog_9_method_30_code 63 = .ok (.iaload, 1) := by decide +kernel
theorem dR_doAdds_64 : decode prog_9_method_30_code 64 = .ok (.ishl, 1) := by decide +kernel
theorem dR_doAdds_65 : decode prog_9_method_30_code 65 = .ok (.if_icmp .ne 13, 3) := by decide +kernel
theorem dR_doAdds_68 : decode prog_9_method_30_code 68 = .ok (.aload_n 0, 1) := by decide +kernel
theorem dR_doAdds_69 : decode prog_9_method_30_code 69 = .ok (.getfield 38, 3) := by decide +kernel
theorem dR_doAdds_72 : decode prog_9_method_30_code 72 = .ok (.iload_n 1, 1) := by decide +kernel
theorem dR_doAdds_73 : decode prog_9_method_30_code 73 = .ok (.dup2, 1) := by decide +kernel
theorem dR_doAdds_74 : decode prog_9_method_30_code 74 = .ok (.iaload, 1) := by decide +kernel
theorem dR_doAdds_75 : decode prog_9_method_30_code 75 = .ok (.iconst 1, 1) := by decide +kernel
theorem dR_doAdds_76 : decode prog_9_method_30_code 76 = .ok (.iadd, 1) := by decide +kernel
theorem dR_doAdds_77 : decode prog_9_method_30_code 77 = .ok (.iastore, 1) := by decide +kernel
theorem dR_doAdds_78 : decode prog_9_method_30_code 78 = .ok (.aload_n 0, 1) := by decide +kernel
theorem dR_doAdds_79 : decode prog_9_method_30_code 79 = .ok (.iload_n 1, 1) := by decide +kernel
theorem dR_doAdds_80 : decode prog_9_method_30_code 80 = .ok (.iconst 2, 1) := by decide +kernel
theorem dR_doAdds_81 : decode prog_9_method_30_code 81 = .ok (.iload 4, 2) := by decide +kernel
theorem dR_doAdds_83 : decode prog_9_method_30_code 83 = .ok (.imul, 1) := by decide +kernel
theorem dR_doAdds_84 : decode prog_9_method_30_code 84 = .ok (.aload_n 0, 1) := by decide +kernel
theorem dR_doAdds_85 : decode prog_9_method_30_code 85 = .ok (.getfield 110, 3) := by decide +kernel
theorem dR_doAdds_88 : decode prog_9_method_30_code 88 = .ok (.iload_n 3, 1) := by decide +kernel
theorem dR_doAdds_89 : decode prog_9_method_30_code 89 = .ok (.iaload, 1) := by decide +kernel
theorem dR_doAdds_90 : decode prog_9_method_30_code 90 = .ok (.invokevirtual 204, 3) := by decide +kernel
theorem dR_doAdds_93 : decode prog_9_method_30_code 93 = .ok (.iconst 1, 1) := by decide +kernel
theorem dR_doAdds_94 : decode prog_9_method_30_code 94 = .ok (.istore 5, 2) := by decide +kernel
theorem dR_doAdds_96 : decode prog_9_method_30_code 96 = .ok (.iload 5, 2) := by decide +kernel
theorem dR_doAdds_98 : decode prog_9_method_30_code 98 = .ok (.aload_n 0, 1) := by decide +kernel
theorem dR_doAdds_99 : decode prog_9_method_30_code 99 = .ok (.getfield 38, 3) := by decide +kernel
theorem dR_doAdds_102 : decode prog_9_method_30_code 102 = .ok (.iload_n 1, 1) := by decide +kernel
theorem dR_doAdds_103 : decode prog_9_method_30_code 103 = .ok (.iaload, 1) := by decide +kernel
theorem dR_doAdds_104 : decode prog_9_method_30_code 104 = .ok (.if_icmp .gt 54, 3) := by decide +kernel
theorem dR_doAdds_107 : decode prog_9_method_30_code 107 = .ok (.aload_n 0, 1) := by decide +kernel
theorem dR_doAdds_108 : decode prog_9_method_30_code 108 = .ok (.getfield 65, 3) := by decide +kernel
theorem dR_doAdds_111 : decode prog_9_method_30_code 111 = .ok (.bipush 31, 2) := by decide +kernel
theorem dR_doAdds_113 : decode prog_9_method_30_code 113 = .ok (.iload_n 1, 1) := by decide +kernel
theorem dR_doAdds_114 : decode prog_9_method_30_code 114 = .ok (.imul, 1) := by decide +kernel
theorem dR_doAdds_115 : decode prog_9_method_30_code 115 = .ok (.iload 4, 2) := by decide +kernel
theorem dR_doAdds_117 : decode prog_9_method_30_code 117 = .ok (.iload 5, 2) := by decide +kernel
theorem dR_doAdds_119 : decode prog_9_method_30_code 119 = .ok (.invokestatic 168, 3) := by decide +kernel
theorem dR_doAdds_122 : decode prog_9_method_30_code 122 = .ok (.iadd, 1) := by decide +kernel
theorem dR_doAdds_123 : decode prog_9_method_30_code 123 = .ok (.iaload, 1) := by decide +kernel
theorem dR_doAdds_124 : decode prog_9_method_30_code 124 = .ok (.iconst (-1), 1) := by decide +kernel
theorem dR_doAdds_125 : decode prog_9_method_30_code 125 = .ok (.if_icmp .eq 27, 3) := by decide +kernel
theorem dR_doAdds_128 : decode prog_9_method_30_code 128 = .ok (.aload_n 0, 1) := by decide +kernel
theorem dR_doAdds_129 : decode prog_9_method_30_code 129 = .ok (.getfield 68, 3) := by decide +kernel
theorem dR_doAdds_132 : decode prog_9_method_30_code 132 = .ok (.bipush 31, 2) := by decide +kernel
theorem dR_doAdds_134 : decode prog_9_method_30_code 134 = .ok (.iload_n 1, 1) := by decide +kernel
theorem dR_doAdds_135 : decode prog_9_method_30_code 135 = .ok (.imul, 1) := by decide +kernel
theorem dR_doAdds_136 : decode prog_9_method_30_code 136 = .ok (.iload 4, 2) := by decide +kernel
theorem dR_doAdds_138 : decode prog_9_method_30_code 138 = .ok (.iload 5, 2) := by decide +kernel
theorem dR_doAdds_140 : decode prog_9_method_30_code 140 = .ok (.invokestatic 168, 3) := by decide +kernel
theorem dR_doAdds_143 : decode prog_9_method_30_code 143 = .ok (.iadd, 1) := by decide +kernel
theorem dR_doAdds_144 : decode prog_9_method_30_code 144 = .ok (.dup2, 1) := by decide +kernel
theorem dR_doAdds_145 : decode prog_9_method_30_code 145 = .ok (.iaload, 1) := by decide +kernel
theorem dR_doAdds_146 : decode prog_9_method_30_code 146 = .ok (.iconst 1, 1) := by decide +kernel
theorem dR_doAdds_147 : decode prog_9_method_30_code 147 = .ok (.iload 4, 2) := by decide +kernel
theorem dR_doAdds_149 : decode prog_9_method_30_code 149 = .ok (.ishl, 1) := by decide +kernel
theorem dR_doAdds_150 : decode prog_9_method_30_code 150 = .ok (.ior, 1) := by decide +kernel
theorem dR_doAdds_151 : decode prog_9_method_30_code 151 = .ok (.iastore, 1) := by decide +kernel
theorem dR_doAdds_152 : decode prog_9_method_30_code 152 = .ok (.iinc 5 1, 3) := by decide +kernel
theorem dR_doAdds_155 : decode prog_9_method_30_code 155 = .ok (.goto (-59), 3) := by decide +kernel
theorem dR_doAdds_158 : decode prog_9_method_30_code 158 = .ok (.aload_n 0, 1) := by decide +kernel
theorem dR_doAdds_159 : decode prog_9_method_30_code 159 = .ok (.getfield 77, 3) := by decide +kernel
theorem dR_doAdds_162 : decode prog_9_method_30_code 162 = .ok (.bipush 16, 2) := by decide +kernel
theorem dR_doAdds_164 : decode prog_9_method_30_code 164 = .ok (.iload_n 1, 1) := by decide +kernel
theorem dR_doAdds_165 : decode prog_9_method_30_code 165 = .ok (.imul, 1) := by decide +kernel
theorem dR_doAdds_166 : decode prog_9_method_30_code 166 = .ok (.iload 4, 2) := by decide +kernel
theorem dR_doAdds_168 : decode prog_9_method_30_code 168 = .ok (.iadd, 1) := by decide +kernel
theorem dR_doAdds_169 : decode prog_9_method_30_code 169 = .ok (.aload_n 0, 1) := by decide +kernel
theorem dR_doAdds_170 : decode prog_9_method_30_code 170 = .ok (.getfield 104, 3) := by decide +kernel
theorem dR_doAdds_173 : decode prog_9_method_30_code 173 = .ok (.iload_n 3, 1) := by decide +kernel
theorem dR_doAdds_174 : decode prog_9_method_30_code 174 = .ok (.iaload, 1) := by decide +kernel
theorem dR_doAdds_175 : decode prog_9_method_30_code 175 = .ok (.iastore, 1) := by decide +kernel
theorem dR_doAdds_176 : decode prog_9_method_30_code 176 = .ok (.aload_n 0, 1) := by decide +kernel
theorem dR_doAdds_177 : decode prog_9_method_30_code 177 = .ok (.getfield 56, 3) := by decide +kernel
theorem dR_doAdds_180 : decode prog_9_method_30_code 180 = .ok (.iload_n 1, 1) := by decide +kernel
theorem dR_doAdds_181 : decode prog_9_method_30_code 181 = .ok (.dup2, 1) := by decide +kernel
theorem dR_doAdds_182 : decode prog_9_method_30_code 182 = .ok (.iaload, 1) := by decide +kernel
theorem dR_doAdds_183 : decode prog_9_method_30_code 183 = .ok (.iconst 1, 1) := by decide +kernel
theorem dR_doAdds_184 : decode prog_9_method_30_code 184 = .ok (.iload 4, 2) := by decide +kernel
theorem dR_doAdds_186 : decode prog_9_method_30_code 186 = .ok (.ishl, 1) := by decide +kernel
theorem dR_doAdds_187 : decode prog_9_method_30_code 187 = .ok (.ior, 1) := by decide +kernel
theorem dR_doAdds_188 : decode prog_9_method_30_code 188 = .ok (.iastore, 1) := by decide +kernel
theorem dR_doAdds_189 : decode prog_9_method_30_code 189 = .ok (.aload_n 0, 1) := by decide +kernel
theorem dR_doAdds_190 : decode prog_9_method_30_code 190 = .ok (.getfield 113, 3) := by decide +kernel
theorem dR_doAdds_193 : decode prog_9_method_30_code 193 = .ok (.iload_n 3, 1) := by decide +kernel
theorem dR_doAdds_194 : decode prog_9_method_30_code 194 = .ok (.iload_n 1, 1) := by decide +kernel
theorem dR_doAdds_195 : decode prog_9_method_30_code 195 = .ok (.iastore, 1) := by decide +kernel
theorem dR_doAdds_196 : decode prog_9_method_30_code 196 = .ok (.aload_n 0, 1) := by decide +kernel
theorem dR_doAdds_197 : decode prog_9_method_30_code 197 = .ok (.getfield 116, 3) := by decide +kernel
theorem dR_doAdds_200 : decode prog_9_method_30_code 200 = .ok (.iload_n 3, 1) := by decide +kernel
theorem dR_doAdds_201 : decode prog_9_method_30_code 201 = .ok (.iload 4, 2) := by decide +kernel
theorem dR_doAdds_203 : decode prog_9_method_30_code 203 = .ok (.iastore, 1) := by decide +kernel
theorem dR_doAdds_204 : decode prog_9_method_30_code 204 = .ok (.iinc 2 1, 3) := by decide +kernel
theorem dR_doAdds_207 : decode prog_9_method_30_code 207 = .ok (.goto (-205), 3) := by decide +kernel
theorem dR_doAdds_210 : decode prog_9_method_30_code 210 = .ok (.return_, 1) := by decide +kernel
theorem dR_mayAdd_0 : decode prog_9_method_28_code 0 = .ok (.aload_n 0, 1) := by decide +kernel
theorem dR_mayAdd_1 : decode prog_9_method_28_code 1 = .ok (.getfield 104, 3) := by decide +kernel
theorem dR_mayAdd_4 : decode prog_9_method_28_code 4 = .ok (.iload_n 2, 1) := by decide +kernel
theorem dR_mayAdd_5 : decode prog_9_method_28_code 5 = .ok (.iaload, 1) := by decide +kernel
theorem dR_mayAdd_6 : decode prog_9_method_28_code 6 = .ok (.istore_n 3, 1) := by decide +kernel
theorem dR_mayAdd_7 : decode prog_9_method_28_code 7 = .ok (.aload_n 0, 1) := by decide +kernel
theorem dR_mayAdd_8 : decode prog_9_method_28_code 8 = .ok (.getfield 113, 3) := by decide +kernel
theorem dR_mayAdd_11 : decode prog_9_method_28_code 11 = .ok (.iload_n 2, 1) := by decide +kernel
theorem dR_mayAdd_12 : decode prog_9_method_28_code 12 = .ok (.iaload, 1) := by decide +kernel
theorem dR_mayAdd_13 : decode prog_9_method_28_code 13 = .ok (.iconst (-1), 1) := by decide +kernel
theorem dR_mayAdd_14 : decode prog_9_method_28_code 14 = .ok (.if_icmp .ne 13, 3) := by decide +kernel
theorem dR_mayAdd_17 : decode prog_9_method_28_code 17 = .ok (.aload_n 0, 1) := by decide +kernel
theorem dR_mayAdd_18 : decode prog_9_method_28_code 18 = .ok (.iload_n 1, 1) := by decide +kernel
theorem dR_mayAdd_19 : decode prog_9_method_28_code 19 = .ok (.iload_n 3, 1) := by decide +kernel
theorem dR_mayAdd_20 : decode prog_9_method_28_code 20 = .ok (.invokevirtual 208, 3) := by decide +kernel
theorem dR_mayAdd_23 : decode prog_9_method_28_code 23 = .ok (.iconst (-1), 1) := by decide +kernel
theorem dR_mayAdd_24 : decode prog_9_method_28_code 24 = .ok (.if_icmp .eq 5, 3) := by decide +kernel
theorem dR_mayAdd_27 : decode prog_9_method_28_code 27 = .ok (.iconst 0, 1) := by decide +kernel
theorem dR_mayAdd_28 : decode prog_9_method_28_code 28 = .ok (.ireturn, 1) := by decide +kernel
theorem dR_mayAdd_29 : decode prog_9_method_28_code 29 = .ok (.aload_n 0, 1) := by decide +kernel
theorem dR_mayAdd_30 : decode prog_9_method_28_code 30 = .ok (.getfield 80, 3) := by decide +kernel
theorem dR_mayAdd_33 : decode prog_9_method_28_code 33 = .ok (.iload_n 3, 1) := by decide +kernel
theorem dR_mayAdd_34 : decode prog_9_method_28_code 34 = .ok (.iaload, 1) := by decide +kernel
theorem dR_mayAdd_35 : decode prog_9_method_28_code 35 = .ok (.iconst (-1), 1) := by decide +kernel
theorem dR_mayAdd_36 : decode prog_9_method_28_code 36 = .ok (.if_icmp .eq 34, 3) := by decide +kernel
theorem dR_mayAdd_39 : decode prog_9_method_28_code 39 = .ok (.aload_n 0, 1) := by decide +kernel
theorem dR_mayAdd_40 : decode prog_9_method_28_code 40 = .ok (.getfield 80, 3) := by decide +kernel
theorem dR_mayAdd_43 : decode prog_9_method_28_code 43 = .ok (.iload_n 3, 1) := by decide +kernel
theorem dR_mayAdd_44 : decode prog_9_method_28_code 44 = .ok (.iaload, 1) := by decide +kernel
theorem dR_mayAdd_45 : decode prog_9_method_28_code 45 = .ok (.iload_n 1, 1) := by decide +kernel
theorem dR_mayAdd_46 : decode prog_9_method_28_code 46 = .ok (.iconst 1, 1) := by decide +kernel
theorem dR_mayAdd_47 : decode prog_9_method_28_code 47 = .ok (.isub, 1) := by decide +kernel
theorem dR_mayAdd_48 : decode prog_9_method_28_code 48 = .ok (.if_icmp .ne 26, 3) := by decide +kernel
theorem dR_mayAdd_51 : decode prog_9_method_28_code 51 = .ok (.aload_n 0, 1) := by decide +kernel
theorem dR_mayAdd_52 : decode prog_9_method_28_code 52 = .ok (.getfield 50, 3) := by decide +kernel
theorem dR_mayAdd_55 : decode prog_9_method_28_code 55 = .ok (.iload_n 1, 1) := by decide +kernel
theorem dR_mayAdd_56 : decode prog_9_method_28_code 56 = .ok (.iaload, 1) := by decide +kernel
theorem dR_mayAdd_57 : decode prog_9_method_28_code 57 = .ok (.aload_n 0, 1) := by decide +kernel
theorem dR_mayAdd_58 : decode prog_9_method_28_code 58 = .ok (.getfield 83, 3) := by decide +kernel
theorem dR_mayAdd_61 : decode prog_9_method_28_code 61 = .ok (.iload_n 3, 1) := by decide +kernel
theorem dR_mayAdd_62 : decode prog_9_method_28_code 62 = .ok (.iaload, 1) := by decide +kernel
theorem dR_mayAdd_63 : decode prog_9_method_28_code 63 = .ok (.ishr, 1) := by decide +kernel
theorem dR_mayAdd_64 : decode prog_9_method_28_code 64 = .ok (.iconst 1, 1) := by decide +kernel
theorem dR_mayAdd_65 : decode prog_9_method_28_code 65 = .ok (.iand, 1) := by decide +kernel
theorem dR_mayAdd_66 : decode prog_9_method_28_code 66 = .ok (.iconst 1, 1) := by decide +kernel
theorem dR_mayAdd_67 : decode prog_9_method_28_code 67 = .ok (.if_icmp .ne 7, 3) := by decide +kernel
theorem dR_mayAdd_70 : decode prog_9_method_28_code 70 = .ok (.iconst 1, 1) := by decide +kernel
theorem dR_mayAdd_71 : decode prog_9_method_28_code 71 = .ok (.goto 4, 3) := by decide +kernel
theorem dR_mayAdd_74 : decode prog_9_method_28_code 74 = .ok (.iconst 0, 1) := by decide +kernel
theorem dR_mayAdd_75 : decode prog_9_method_28_code 75 = .ok (.ireturn, 1) := by decide +kernel
theorem dR_leafOf_0 : decode prog_9_method_17_code 0 = .ok (.iconst 0, 1) := by decide +kernel
theorem dR_leafOf_1 : decode prog_9_method_17_code 1 = .ok (.istore_n 3, 1) := by decide +kernel
theorem dR_leafOf_2 : decode prog_9_method_17_code 2 = .ok (.iload_n 3, 1) := by decide +kernel
theorem dR_leafOf_3 : decode prog_9_method_17_code 3 = .ok (.iconst 1, 1) := by decide +kernel
theorem dR_leafOf_4 : decode prog_9_method_17_code 4 = .ok (.aload_n 0, 1) := by decide +kernel
theorem dR_leafOf_5 : decode prog_9_method_17_code 5 = .ok (.getfield 38, 3) := by decide +kernel
theorem dR_leafOf_8 : decode prog_9_method_17_code 8 = .ok (.iload_n 1, 1) := by decide +kernel
theorem dR_leafOf_9 : decode prog_9_method_17_code 9 = .ok (.iaload, 1) := by decide +kernel
theorem dR_leafOf_10 : decode prog_9_method_17_code 10 = .ok (.ishl, 1) := by decide +kernel
theorem dR_leafOf_11 : decode prog_9_method_17_code 11 = .ok (.if_icmp .ge 26, 3) := by decide +kernel
theorem dR_leafOf_14 : decode prog_9_method_17_code 14 = .ok (.aload_n 0, 1) := by decide +kernel
theorem dR_leafOf_15 : decode prog_9_method_17_code 15 = .ok (.getfield 77, 3) := by decide +kernel
theorem dR_leafOf_18 : decode prog_9_method_17_code 18 = .ok (.bipush 16, 2) := by decide +kernel
theorem dR_leafOf_20 : decode prog_9_method_17_code 20 = .ok (.iload_n 1, 1) := by decide +kernel
theorem dR_leafOf_21 : decode prog_9_method_17_code 21 = .ok (.imul, 1) := by decide +kernel
theorem dR_leafOf_22 : decode prog_9_method_17_code 22 = .ok (.iload_n 3, 1) := by decide +kernel
theorem dR_leafOf_23 : decode prog_9_method_17_code 23 = .ok (.iadd, 1) := by decide +kernel
theorem dR_leafOf_24 : decode prog_9_method_17_code 24 = .ok (.iaload, 1) := by decide +kernel
theorem dR_leafOf_25 : decode prog_9_method_17_code 25 = .ok (.iload_n 2, 1) := by decide +kernel
theorem dR_leafOf_26 : decode prog_9_method_17_code 26 = .ok (.if_icmp .ne 5, 3) := by decide +kernel
theorem dR_leafOf_29 : decode prog_9_method_17_code 29 = .ok (.iload_n 3, 1) := by decide +kernel
theorem dR_leafOf_30 : decode prog_9_method_17_code 30 = .ok (.ireturn, 1) := by decide +kernel
theorem dR_leafOf_31 : decode prog_9_method_17_code 31 = .ok (.iinc 3 1, 3) := by decide +kernel
theorem dR_leafOf_34 : decode prog_9_method_17_code 34 = .ok (.goto (-32), 3) := by decide +kernel
theorem dR_leafOf_37 : decode prog_9_method_17_code 37 = .ok (.iconst (-1), 1) := by decide +kernel
theorem dR_leafOf_38 : decode prog_9_method_17_code 38 = .ok (.ireturn, 1) := by decide +kernel
theorem dR_freeLeaf_0 : decode prog_9_method_29_code 0 = .ok (.iconst 0, 1) := by decide +kernel
theorem dR_freeLeaf_1 : decode prog_9_method_29_code 1 = .ok (.istore_n 2, 1) := by decide +kernel
theorem dR_freeLeaf_2 : decode prog_9_method_29_code 2 = .ok (.iload_n 2, 1) := by decide +kernel
theorem dR_freeLeaf_3 : decode prog_9_method_29_code 3 = .ok (.iconst 1, 1) := by decide +kernel
theorem dR_freeLeaf_4 : decode prog_9_method_29_code 4 = .ok (.aload_n 0, 1) := by decide +kernel
theorem dR_freeLeaf_5 : decode prog_9_method_29_code 5 = .ok (.getfield 38, 3) := by decide +kernel
theorem dR_freeLeaf_8 : decode prog_9_method_29_code 8 = .ok (.iload_n 1, 1) := by decide +kernel
theorem dR_freeLeaf_9 : decode prog_9_method_29_code 9 = .ok (.iaload, 1) := by decide +kernel
theorem dR_freeLeaf_10 : decode prog_9_method_29_code 10 = .ok (.ishl, 1) := by decide +kernel
theorem dR_freeLeaf_11 : decode prog_9_method_29_code 11 = .ok (.if_icmp .ge 26, 3) := by decide +kernel
theorem dR_freeLeaf_14 : decode prog_9_method_29_code 14 = .ok (.aload_n 0, 1) := by decide +kernel
theorem dR_freeLeaf_15 : decode prog_9_method_29_code 15 = .ok (.getfield 65, 3) := by decide +kernel
end
section
theorem dR_freeLeaf_18 : decode prog_9_method_29_code 18 = .ok (.bipush 31, 2) := by decide +kernel
theorem dR_freeLeaf_20 : decode prog_9_method_29_code 20 = .ok (.iload_n 1, 1) := by decide +kernel
theorem dR_freeLeaf_21 : decode prog_9_method_29_code 21 = .ok (.imul, 1) := by decide +kernel
theorem dR_freeLeaf_22 : decode prog_9_method_29_code 22 = .ok (.iconst 2, 1) := by decide +kernel
theorem dR_freeLeaf_23 : decode prog_9_method_29_code 23 = .ok (.iload_n 2, 1) := by decide +kernel
theorem dR_freeLeaf_24 : decode prog_9_method_29_code 24 = .ok (.imul, 1) := by decide +kernel
theorem dR_freeLeaf_25 : decode prog_9_method_29_code 25 = .ok (.iadd, 1) := by decide +kernel
theorem dR_freeLeaf_26 : decode prog_9_method_29_code 26 = .ok (.iaload, 1) := by decide +kernel
theorem dR_freeLeaf_27 : decode prog_9_method_29_code 27 = .ok (.iconst (-1), 1) := by decide +kernel
theorem dR_freeLeaf_28 : decode prog_9_method_29_code 28 = .ok (.if_icmp .eq 9, 3) := by decide +kernel
theorem dR_freeLeaf_31 : decode prog_9_method_29_code 31 = .ok (.iinc 2 1, 3) := by decide +kernel
theorem dR_freeLeaf_34 : decode prog_9_method_29_code 34 = .ok (.goto (-32), 3) := by decide +kernel
theorem dR_freeLeaf_37 : decode prog_9_method_29_code 37 = .ok (.iload_n 2, 1) := by decide +kernel
theorem dR_freeLeaf_38 : decode prog_9_method_29_code 38 = .ok (.ireturn, 1) := by decide +kernel
theorem dR_renew_0 : decode prog_9_method_31_code 0 = .ok (.aload_n 0, 1) := by decide +kernel
theorem dR_renew_1 : decode prog_9_method_31_code 1 = .ok (.iload_n 1, 1) := by decide +kernel
theorem dR_renew_2 : decode prog_9_method_31_code 2 = .ok (.iconst 2, 1) := by decide +kernel
theorem dR_renew_3 : decode prog_9_method_31_code 3 = .ok (.iload_n 2, 1) := by decide +kernel
theorem dR_renew_4 : decode prog_9_method_31_code 4 = .ok (.imul, 1) := by decide +kernel
theorem dR_renew_5 : decode prog_9_method_31_code 5 = .ok (.aload_n 0, 1) := by decide +kernel
theorem dR_renew_6 : decode prog_9_method_31_code 6 = .ok (.iconst 1, 1) := by decide +kernel
theorem dR_renew_7 : decode prog_9_method_31_code 7 = .ok (.iconst 0, 1) := by decide +kernel
theorem dR_renew_8 : decode prog_9_method_31_code 8 = .ok (.iconst 0, 1) := by decide +kernel
theorem dR_renew_9 : decode prog_9_method_31_code 9 = .ok (.invokevirtual 143, 3) := by decide +kernel
theorem dR_renew_12 : decode prog_9_method_31_code 12 = .ok (.invokevirtual 204, 3) := by decide +kernel
theorem dR_renew_15 : decode prog_9_method_31_code 15 = .ok (.iconst (-1), 1) := by decide +kernel
theorem dR_renew_16 : decode prog_9_method_31_code 16 = .ok (.istore_n 3, 1) := by decide +kernel
theorem dR_renew_17 : decode prog_9_method_31_code 17 = .ok (.iconst 1, 1) := by decide +kernel
theorem dR_renew_18 : decode prog_9_method_31_code 18 = .ok (.istore 4, 2) := by decide +kernel
theorem dR_renew_20 : decode prog_9_method_31_code 20 = .ok (.iload 4, 2) := by decide +kernel
theorem dR_renew_22 : decode prog_9_method_31_code 22 = .ok (.aload_n 0, 1) := by decide +kernel
theorem dR_renew_23 : decode prog_9_method_31_code 23 = .ok (.getfield 38, 3) := by decide +kernel
theorem dR_renew_26 : decode prog_9_method_31_code 26 = .ok (.iload_n 1, 1) := by decide +kernel
theorem dR_renew_27 : decode prog_9_method_31_code 27 = .ok (.iaload, 1) := by decide +kernel
theorem dR_renew_28 : decode prog_9_method_31_code 28 = .ok (.if_icmp .gt 190, 3) := by decide +kernel
theorem dR_renew_31 : decode prog_9_method_31_code 31 = .ok (.iload_n 2, 1) := by decide +kernel
theorem dR_renew_32 : decode prog_9_method_31_code 32 = .ok (.iload 4, 2) := by decide +kernel
theorem dR_renew_34 : decode prog_9_method_31_code 34 = .ok (.invokestatic 168, 3) := by decide +kernel
theorem dR_renew_37 : decode prog_9_method_31_code 37 = .ok (.istore 5, 2) := by decide +kernel
theorem dR_renew_39 : decode prog_9_method_31_code 39 = .ok (.aload_n 0, 1) := by decide +kernel
theorem dR_renew_40 : decode prog_9_method_31_code 40 = .ok (.iload_n 1, 1) := by decide +kernel
theorem dR_renew_41 : decode prog_9_method_31_code 41 = .ok (.iload_n 2, 1) := by decide +kernel
theorem dR_renew_42 : decode prog_9_method_31_code 42 = .ok (.iconst 1, 1) := by decide +kernel
theorem dR_renew_43 : decode prog_9_method_31_code 43 = .ok (.iload 4, 2) := by decide +kernel
theorem dR_renew_45 : decode prog_9_method_31_code 45 = .ok (.iconst 1, 1) := by decide +kernel
theorem dR_renew_46 : decode prog_9_method_31_code 46 = .ok (.isub, 1) := by decide +kernel
theorem dR_renew_47 : decode prog_9_method_31_code 47 = .ok (.ishl, 1) := by decide +kernel
theorem dR_renew_48 : decode prog_9_method_31_code 48 = .ok (.ixor, 1) := by decide +kernel
theorem dR_renew_49 : decode prog_9_method_31_code 49 = .ok (.iload 4, 2) := by decide +kernel
theorem dR_renew_51 : decode prog_9_method_31_code 51 = .ok (.iconst 1, 1) := by decide +kernel
theorem dR_renew_52 : decode prog_9_method_31_code 52 = .ok (.isub, 1) := by decide +kernel
theorem dR_renew_53 : decode prog_9_method_31_code 53 = .ok (.invokestatic 168, 3) := by decide +kernel
theorem dR_renew_56 : decode prog_9_method_31_code 56 = .ok (.invokevirtual 218, 3) := by decide +kernel
theorem dR_renew_59 : decode prog_9_method_31_code 59 = .ok (.aload_n 0, 1) := by decide +kernel
theorem dR_renew_60 : decode prog_9_method_31_code 60 = .ok (.getfield 176, 3) := by decide +kernel
theorem dR_renew_63 : decode prog_9_method_31_code 63 = .ok (.ifCond .ne 13, 3) := by decide +kernel
theorem dR_renew_66 : decode prog_9_method_31_code 66 = .ok (.aload_n 0, 1) := by decide +kernel
theorem dR_renew_67 : decode prog_9_method_31_code 67 = .ok (.iload_n 1, 1) := by decide +kernel
theorem dR_renew_68 : decode prog_9_method_31_code 68 = .ok (.iload 5, 2) := by decide +kernel
theorem dR_renew_70 : decode prog_9_method_31_code 70 = .ok (.invokevirtual 172, 3) := by decide +kernel
theorem dR_renew_73 : decode prog_9_method_31_code 73 = .ok (.goto 139, 3) := by decide +kernel
theorem dR_renew_76 : decode prog_9_method_31_code 76 = .ok (.iload_n 3, 1) := by decide +kernel
theorem dR_renew_77 : decode prog_9_method_31_code 77 = .ok (.iconst (-1), 1) := by decide +kernel
theorem dR_renew_78 : decode prog_9_method_31_code 78 = .ok (.if_icmp .ne 13, 3) := by decide +kernel
theorem dR_renew_81 : decode prog_9_method_31_code 81 = .ok (.aload_n 0, 1) := by decide +kernel
theorem dR_renew_82 : decode prog_9_method_31_code 82 = .ok (.iconst 1, 1) := by decide +kernel
theorem dR_renew_83 : decode prog_9_method_31_code 83 = .ok (.iconst 0, 1) := by decide +kernel
theorem dR_renew_84 : decode prog_9_method_31_code 84 = .ok (.iconst 0, 1) := by decide +kernel
theorem dR_renew_85 : decode prog_9_method_31_code 85 = .ok (.invokevirtual 143, 3) := by decide +kernel
theorem dR_renew_88 : decode prog_9_method_31_code 88 = .ok (.goto 10, 3) := by decide +kernel
theorem dR_renew_91 : decode prog_9_method_31_code 91 = .ok (.aload_n 0, 1) := by decide +kernel
theorem dR_renew_92 : decode prog_9_method_31_code 92 = .ok (.iconst 2, 1) := by decide +kernel
theorem dR_renew_93 : decode prog_9_method_31_code 93 = .ok (.iload_n 3, 1) := by decide +kernel
theorem dR_renew_94 : decode prog_9_method_31_code 94 = .ok (.iconst 0, 1) := by decide +kernel
theorem dR_renew_95 : decode prog_9_method_31_code 95 = .ok (.invokevirtual 221, 3) := by decide +kernel
theorem dR_renew_98 : decode prog_9_method_31_code 98 = .ok (.istore_n 3, 1) := by decide +kernel
theorem dR_renew_99 : decode prog_9_method_31_code 99 = .ok (.aload_n 0, 1) := by decide +kernel
theorem dR_renew_100 : decode prog_9_method_31_code 100 = .ok (.getfield 74, 3) := by decide +kernel
theorem dR_renew_103 : decode prog_9_method_31_code 103 = .ok (.bipush 31, 2) := by decide +kernel
theorem dR_renew_105 : decode prog_9_method_31_code 105 = .ok (.iload_n 1, 1) := by decide +kernel
theorem dR_renew_106 : decode prog_9_method_31_code 106 = .ok (.imul, 1) := by decide +kernel
theorem dR_renew_107 : decode prog_9_method_31_code 107 = .ok (.iload 5, 2) := by decide +kernel
theorem dR_renew_109 : decode prog_9_method_31_code 109 = .ok (.iadd, 1) := by decide +kernel
theorem dR_renew_110 : decode prog_9_method_31_code 110 = .ok (.iload_n 3, 1) := by decide +kernel
theorem dR_renew_111 : decode prog_9_method_31_code 111 = .ok (.iastore, 1) := by decide +kernel
theorem dR_renew_112 : decode prog_9_method_31_code 112 = .ok (.aload_n 0, 1) := by decide +kernel
theorem dR_renew_113 : decode prog_9_method_31_code 113 = .ok (.getfield 47, 3) := by decide +kernel
theorem dR_renew_116 : decode prog_9_method_31_code 116 = .ok (.iload_n 1, 1) := by decide +kernel
theorem dR_renew_117 : decode prog_9_method_31_code 117 = .ok (.dup2, 1) := by decide +kernel
theorem dR_renew_118 : decode prog_9_method_31_code 118 = .ok (.iaload, 1) := by decide +kernel
theorem dR_renew_119 : decode prog_9_method_31_code 119 = .ok (.iconst 1, 1) := by decide +kernel
theorem dR_renew_120 : decode prog_9_method_31_code 120 = .ok (.iload 5, 2) := by decide +kernel
theorem dR_renew_122 : decode prog_9_method_31_code 122 = .ok (.ishl, 1) := by decide +kernel
theorem dR_renew_123 : decode prog_9_method_31_code 123 = .ok (.ior, 1) := by decide +kernel
theorem dR_renew_124 : decode prog_9_method_31_code 124 = .ok (.iastore, 1) := by decide +kernel
theorem dR_renew_125 : decode prog_9_method_31_code 125 = .ok (.iconst 0, 1) := by decide +kernel
theorem dR_renew_126 : decode prog_9_method_31_code 126 = .ok (.istore 6, 2) := by decide +kernel
theorem dR_renew_128 : decode prog_9_method_31_code 128 = .ok (.iload 6, 2) := by decide +kernel
theorem dR_renew_130 : decode prog_9_method_31_code 130 = .ok (.aload_n 0, 1) := by decide +kernel
theorem dR_renew_131 : decode prog_9_method_31_code 131 = .ok (.getfield 176, 3) := by decide +kernel
theorem dR_renew_134 : decode prog_9_method_31_code 134 = .ok (.if_icmp .ge 64, 3) := by decide +kernel
theorem dR_renew_137 : decode prog_9_method_31_code 137 = .ok (.aload_n 0, 1) := by decide +kernel
theorem dR_renew_138 : decode prog_9_method_31_code 138 = .ok (.getfield 134, 3) := by decide +kernel
theorem dR_renew_141 : decode prog_9_method_31_code 141 = .ok (.iload 6, 2) := by decide +kernel
theorem dR_renew_143 : decode prog_9_method_31_code 143 = .ok (.iaload, 1) := by decide +kernel
theorem dR_renew_144 : decode prog_9_method_31_code 144 = .ok (.istore 7, 2) := by decide +kernel
theorem dR_renew_146 : decode prog_9_method_31_code 146 = .ok (.iload 7, 2) := by decide +kernel
theorem dR_renew_148 : decode prog_9_method_31_code 148 = .ok (.iconst 2, 1) := by decide +kernel
theorem dR_renew_149 : decode prog_9_method_31_code 149 = .ok (.irem, 1) := by decide +kernel
theorem dR_renew_150 : decode prog_9_method_31_code 150 = .ok (.ifCond .ne 23, 3) := by decide +kernel
theorem dR_renew_153 : decode prog_9_method_31_code 153 = .ok (.aload_n 0, 1) := by decide +kernel
theorem dR_renew_154 : decode prog_9_method_31_code 154 = .ok (.getfield 56, 3) := by decide +kernel
theorem dR_renew_157 : decode prog_9_method_31_code 157 = .ok (.iload_n 1, 1) := by decide +kernel
theorem dR_renew_158 : decode prog_9_method_31_code 158 = .ok (.iaload, 1) := by decide +kernel
theorem dR_renew_159 : decode prog_9_method_31_code 159 = .ok (.iload 7, 2) := by decide +kernel
theorem dR_renew_161 : decode prog_9_method_31_code 161 = .ok (.iconst 2, 1) := by decide +kernel
theorem dR_renew_162 : decode prog_9_method_31_code 162 = .ok (.idiv, 1) := by decide +kernel
theorem dR_renew_163 : decode prog_9_method_31_code 163 = .ok (.ishr, 1) := by decide +kernel
theorem dR_renew_164 : decode prog_9_method_31_code 164 = .ok (.iconst 1, 1) := by decide +kernel
theorem dR_renew_165 : decode prog_9_method_31_code 165 = .ok (.iand, 1) := by decide +kernel
theorem dR_renew_166 : decode prog_9_method_31_code 166 = .ok (.iconst 1, 1) := by decide +kernel
theorem dR_renew_167 : decode prog_9_method_31_code 167 = .ok (.if_icmp .ne 6, 3) := by decide +kernel
theorem dR_renew_170 : decode prog_9_method_31_code 170 = .ok (.goto 22, 3) := by decide +kernel
theorem dR_renew_173 : decode prog_9_method_31_code 173 = .ok (.aload_n 0, 1) := by decide +kernel
theorem dR_renew_174 : decode prog_9_method_31_code 174 = .ok (.aload_n 0, 1) := by decide +kernel
theorem dR_renew_175 : decode prog_9_method_31_code 175 = .ok (.getfield 65, 3) := by decide +kernel
theorem dR_renew_178 : decode prog_9_method_31_code 178 = .ok (.bipush 31, 2) := by decide +kernel
theorem dR_renew_180 : decode prog_9_method_31_code 180 = .ok (.iload_n 1, 1) := by decide +kernel
theorem dR_renew_181 : decode prog_9_method_31_code 181 = .ok (.imul, 1) := by decide +kernel
theorem dR_renew_182 : decode prog_9_method_31_code 182 = .ok (.iload 7, 2) := by decide +kernel
theorem dR_renew_184 : decode prog_9_method_31_code 184 = .ok (.iadd, 1) := by decide +kernel
theorem dR_renew_185 : decode prog_9_method_31_code 185 = .ok (.iaload, 1) := by decide +kernel
theorem dR_renew_186 : decode prog_9_method_31_code 186 = .ok (.iload_n 3, 1) := by decide +kernel
theorem dR_renew_187 : decode prog_9_method_31_code 187 = .ok (.iload 5, 2) := by decide +kernel
theorem dR_renew_189 : decode prog_9_method_31_code 189 = .ok (.invokevirtual 224, 3) := by decide +kernel
theorem dR_renew_192 : decode prog_9_method_31_code 192 = .ok (.iinc 6 1, 3) := by decide +kernel
theorem dR_renew_195 : decode prog_9_method_31_code 195 = .ok (.goto (-67), 3) := by decide +kernel
theorem dR_renew_198 : decode prog_9_method_31_code 198 = .ok (.aload_n 0, 1) := by decide +kernel
theorem dR_renew_199 : decode prog_9_method_31_code 199 = .ok (.iload_n 1, 1) := by decide +kernel
theorem dR_renew_200 : decode prog_9_method_31_code 200 = .ok (.iload 5, 2) := by decide +kernel
theorem dR_renew_202 : decode prog_9_method_31_code 202 = .ok (.aload_n 0, 1) := by decide +kernel
theorem dR_renew_203 : decode prog_9_method_31_code 203 = .ok (.iconst 3, 1) := by decide +kernel
theorem dR_renew_204 : decode prog_9_method_31_code 204 = .ok (.iload_n 3, 1) := by decide +kernel
theorem dR_renew_205 : decode prog_9_method_31_code 205 = .ok (.iconst 0, 1) := by decide +kernel
theorem dR_renew_206 : decode prog_9_method_31_code 206 = .ok (.invokevirtual 221, 3) := by decide +kernel
theorem dR_renew_209 : decode prog_9_method_31_code 209 = .ok (.invokevirtual 204, 3) := by decide +kernel
theorem dR_renew_212 : decode prog_9_method_31_code 212 = .ok (.iinc 4 1, 3) := by decide +kernel
theorem dR_renew_215 : decode prog_9_method_31_code 215 = .ok (.goto (-195), 3) := by decide +kernel
theorem dR_renew_218 : decode prog_9_method_31_code 218 = .ok (.iload_n 3, 1) := by decide +kernel
theorem dR_renew_219 : decode prog_9_method_31_code 219 = .ok (.iconst (-1), 1) := by decide +kernel
theorem dR_renew_220 : decode prog_9_method_31_code 220 = .ok (.if_icmp .ne 13, 3) := by decide +kernel
theorem dR_renew_223 : decode prog_9_method_31_code 223 = .ok (.aload_n 0, 1) := by decide +kernel
theorem dR_renew_224 : decode prog_9_method_31_code 224 = .ok (.iconst 1, 1) := by decide +kernel
theorem dR_renew_225 : decode prog_9_method_31_code 225 = .ok (.iconst 0, 1) := by decide +kernel
theorem dR_renew_226 : decode prog_9_method_31_code 226 = .ok (.iconst 0, 1) := by decide +kernel
theorem dR_renew_227 : decode prog_9_method_31_code 227 = .ok (.invokevirtual 143, 3) := by decide +kernel
theorem dR_renew_230 : decode prog_9_method_31_code 230 = .ok (.goto 10, 3) := by decide +kernel
theorem dR_renew_233 : decode prog_9_method_31_code 233 = .ok (.aload_n 0, 1) := by decide +kernel
theorem dR_renew_234 : decode prog_9_method_31_code 234 = .ok (.iconst 2, 1) := by decide +kernel
theorem dR_renew_235 : decode prog_9_method_31_code 235 = .ok (.iload_n 3, 1) := by decide +kernel
theorem dR_renew_236 : decode prog_9_method_31_code 236 = .ok (.iconst 0, 1) := by decide +kernel
theorem dR_renew_237 : decode prog_9_method_31_code 237 = .ok (.invokevirtual 221, 3) := by decide +kernel
theorem dR_renew_240 : decode prog_9_method_31_code 240 = .ok (.ireturn, 1) := by decide +kernel
theorem dR_resolve_0 : decode prog_9_method_15_code 0 = .ok (.aload_n 0, 1) := by decide +kernel
theorem dR_resolve_1 : decode prog_9_method_15_code 1 = .ok (.iconst 0, 1) := by decide +kernel
theorem dR_resolve_2 : decode prog_9_method_15_code 2 = .ok (.putfield 176, 3) := by decide +kernel
theorem dR_resolve_5 : decode prog_9_method_15_code 5 = .ok (.iconst 1, 1) := by decide +kernel
theorem dR_resolve_6 : decode prog_9_method_15_code 6 = .ok (.istore_n 3, 1) := by decide +kernel
theorem dR_resolve_7 : decode prog_9_method_15_code 7 = .ok (.aload_n 0, 1) := by decide +kernel
theorem dR_resolve_8 : decode prog_9_method_15_code 8 = .ok (.getfield 137, 3) := by decide +kernel
theorem dR_resolve_11 : decode prog_9_method_15_code 11 = .ok (.iconst 0, 1) := by decide +kernel
theorem dR_resolve_12 : decode prog_9_method_15_code 12 = .ok (.iload_n 2, 1) := by decide +kernel
theorem dR_resolve_13 : decode prog_9_method_15_code 13 = .ok (.iastore, 1) := by decide +kernel
theorem dR_resolve_14 : decode prog_9_method_15_code 14 = .ok (.iload_n 3, 1) := by decide +kernel
theorem dR_resolve_15 : decode prog_9_method_15_code 15 = .ok (.ifCond .le 171, 3) := by decide +kernel
theorem dR_resolve_18 : decode prog_9_method_15_code 18 = .ok (.iinc 3 (-1), 3) := by decide +kernel
theorem dR_resolve_21 : decode prog_9_method_15_code 21 = .ok (.aload_n 0, 1) := by decide +kernel
theorem dR_resolve_22 : decode prog_9_method_15_code 22 = .ok (.getfield 137, 3) := by decide +kernel
theorem dR_resolve_25 : decode prog_9_method_15_code 25 = .ok (.iload_n 3, 1) := by decide +kernel
theorem dR_resolve_26 : decode prog_9_method_15_code 26 = .ok (.iaload, 1) := by decide +kernel
theorem dR_resolve_27 : decode prog_9_method_15_code 27 = .ok (.istore 4, 2) := by decide +kernel
theorem dR_resolve_29 : decode prog_9_method_15_code 29 = .ok (.iload 4, 2) := by decide +kernel
theorem dR_resolve_31 : decode prog_9_method_15_code 31 = .ok (.invokestatic 179, 3) := by decide +kernel
theorem dR_resolve_34 : decode prog_9_method_15_code 34 = .ok (.istore 5, 2) := by decide +kernel
theorem dR_resolve_36 : decode prog_9_method_15_code 36 = .ok (.aload_n 0, 1) := by decide +kernel
theorem dR_resolve_37 : decode prog_9_method_15_code 37 = .ok (.getfield 65, 3) := by decide +kernel
theorem dR_resolve_40 : decode prog_9_method_15_code 40 = .ok (.bipush 31, 2) := by decide +kernel
theorem dR_resolve_42 : decode prog_9_method_15_code 42 = .ok (.iload_n 1, 1) := by decide +kernel
theorem dR_resolve_43 : decode prog_9_method_15_code 43 = .ok (.imul, 1) := by decide +kernel
theorem dR_resolve_44 : decode prog_9_method_15_code 44 = .ok (.iload 4, 2) := by decide +kernel
theorem dR_resolve_46 : decode prog_9_method_15_code 46 = .ok (.iadd, 1) := by decide +kernel
theorem dR_resolve_47 : decode prog_9_method_15_code 47 = .ok (.iaload, 1) := by decide +kernel
theorem dR_resolve_48 : decode prog_9_method_15_code 48 = .ok (.iconst (-1), 1) := by decide +kernel
theorem dR_resolve_49 : decode prog_9_method_15_code 49 = .ok (.if_icmp .eq 94, 3) := by decide +kernel
theorem dR_resolve_52 : decode prog_9_method_15_code 52 = .ok (.aload_n 0, 1) := by decide +kernel
theorem dR_resolve_53 : decode prog_9_method_15_code 53 = .ok (.getfield 134, 3) := by decide +kernel
theorem dR_resolve_56 : decode prog_9_method_15_code 56 = .ok (.aload_n 0, 1) := by decide +kernel
theorem dR_resolve_57 : decode prog_9_method_15_code 57 = .ok (.getfield 176, 3) := by decide +kernel
theorem dR_resolve_60 : decode prog_9_method_15_code 60 = .ok (.iload 4, 2) := by decide +kernel
theorem dR_resolve_62 : decode prog_9_method_15_code 62 = .ok (.iastore, 1) := by decide +kernel
theorem dR_resolve_63 : decode prog_9_method_15_code 63 = .ok (.aload_n 0, 1) := by decide +kernel
theorem dR_resolve_64 : decode prog_9_method_15_code 64 = .ok (.dup, 1) := by decide +kernel
theorem dR_resolve_65 : decode prog_9_method_15_code 65 = .ok (.getfield 176, 3) := by decide +kernel
theorem dR_resolve_68 : decode prog_9_method_15_code 68 = .ok (.iconst 1, 1) := by decide +kernel
theorem dR_resolve_69 : decode prog_9_method_15_code 69 = .ok (.iadd, 1) := by decide +kernel
theorem dR_resolve_70 : decode prog_9_method_15_code 70 = .ok (.putfield 176, 3) := by decide +kernel
theorem dR_resolve_73 : decode prog_9_method_15_code 73 = .ok (.iconst 0, 1) := by decide +kernel
theorem dR_resolve_74 : decode prog_9_method_15_code 74 = .ok (.istore 6, 2) := by decide +kernel
theorem dR_resolve_76 : decode prog_9_method_15_code 76 = .ok (.iload 6, 2) := by decide +kernel
theorem dR_resolve_78 : decode prog_9_method_15_code 78 = .ok (.bipush 16, 2) := by decide +kernel
theorem dR_resolve_80 : decode prog_9_method_15_code 80 = .ok (.if_icmp .ge 60, 3) := by decide +kernel
theorem dR_resolve_83 : decode prog_9_method_15_code 83 = .ok (.iload 5, 2) := by decide +kernel
theorem dR_resolve_85 : decode prog_9_method_15_code 85 = .ok (.ifCond .le 55, 3) := by decide +kernel
theorem dR_resolve_88 : decode prog_9_method_15_code 88 = .ok (.aload_n 0, 1) := by decide +kernel
theorem dR_resolve_89 : decode prog_9_method_15_code 89 = .ok (.getfield 68, 3) := by decide +kernel
theorem dR_resolve_92 : decode prog_9_method_15_code 92 = .ok (.bipush 31, 2) := by decide +kernel
theorem dR_resolve_94 : decode prog_9_method_15_code 94 = .ok (.iload_n 1, 1) := by decide +kernel
theorem dR_resolve_95 : decode prog_9_method_15_code 95 = .ok (.imul, 1) := by decide +kernel
theorem dR_resolve_96 : decode prog_9_method_15_code 96 = .ok (.iload 4, 2) := by decide +kernel
theorem dR_resolve_98 : decode prog_9_method_15_code 98 = .ok (.iadd, 1) := by decide +kernel
theorem dR_resolve_99 : decode prog_9_method_15_code 99 = .ok (.iaload, 1) := by decide +kernel
theorem dR_resolve_100 : decode prog_9_method_15_code 100 = .ok (.iload 6, 2) := by decide +kernel
theorem dR_resolve_102 : decode prog_9_method_15_code 102 = .ok (.ishr, 1) := by decide +kernel
theorem dR_resolve_103 : decode prog_9_method_15_code 103 = .ok (.iconst 1, 1) := by decide +kernel
theorem dR_resolve_104 : decode prog_9_method_15_code 104 = .ok (.iand, 1) := by decide +kernel
theorem dR_resolve_105 : decode prog_9_method_15_code 105 = .ok (.ifCond .ne 6, 3) := by decide +kernel
theorem dR_resolve_108 : decode prog_9_method_15_code 108 = .ok (.goto 26, 3) := by decide +kernel
theorem dR_resolve_111 : decode prog_9_method_15_code 111 = .ok (.aload_n 0, 1) := by decide +kernel
theorem dR_resolve_112 : decode prog_9_method_15_code 112 = .ok (.getfield 134, 3) := by decide +kernel
theorem dR_resolve_115 : decode prog_9_method_15_code 115 = .ok (.aload_n 0, 1) := by decide +kernel
theorem dR_resolve_116 : decode prog_9_method_15_code 116 = .ok (.getfield 176, 3) := by decide +kernel
theorem dR_resolve_119 : decode prog_9_method_15_code 119 = .ok (.iconst 2, 1) := by decide +kernel
theorem dR_resolve_120 : decode prog_9_method_15_code 120 = .ok (.iload 6, 2) := by decide +kernel
theorem dR_resolve_122 : decode prog_9_method_15_code 122 = .ok (.imul, 1) := by decide +kernel
theorem dR_resolve_123 : decode prog_9_method_15_code 123 = .ok (.iastore, 1) := by decide +kernel
theorem dR_resolve_124 : decode prog_9_method_15_code 124 = .ok (.aload_n 0, 1) := by decide +kernel
theorem dR_resolve_125 : decode prog_9_method_15_code 125 = .ok (.dup, 1) := by decide +kernel
theorem dR_resolve_126 : decode prog_9_method_15_code 126 = .ok (.getfield 176, 3) := by decide +kernel
theorem dR_resolve_129 : decode prog_9_method_15_code 129 = .ok (.iconst 1, 1) := by decide +kernel
theorem dR_resolve_130 : decode prog_9_method_15_code 130 = .ok (.iadd, 1) := by decide +kernel
theorem dR_resolve_131 : decode prog_9_method_15_code 131 = .ok (.putfield 176, 3) := by decide +kernel
theorem dR_resolve_134 : decode prog_9_method_15_code 134 = .ok (.iinc 6 1, 3) := by decide +kernel
theorem dR_resolve_137 : decode prog_9_method_15_code 137 = .ok (.goto (-61), 3) := by decide +kernel
theorem dR_resolve_140 : decode prog_9_method_15_code 140 = .ok (.goto 43, 3) := by decide +kernel
theorem dR_resolve_143 : decode prog_9_method_15_code 143 = .ok (.iload 5, 2) := by decide +kernel
theorem dR_resolve_145 : decode prog_9_method_15_code 145 = .ok (.ifCond .le 38, 3) := by decide +kernel
theorem dR_resolve_148 : decode prog_9_method_15_code 148 = .ok (.aload_n 0, 1) := by decide +kernel
theorem dR_resolve_149 : decode prog_9_method_15_code 149 = .ok (.getfield 137, 3) := by decide +kernel
theorem dR_resolve_152 : decode prog_9_method_15_code 152 = .ok (.iload_n 3, 1) := by decide +kernel
theorem dR_resolve_153 : decode prog_9_method_15_code 153 = .ok (.iload 4, 2) := by decide +kernel
theorem dR_resolve_155 : decode prog_9_method_15_code 155 = .ok (.iconst 1, 1) := by decide +kernel
theorem dR_resolve_156 : decode prog_9_method_15_code 156 = .ok (.iload 5, 2) := by decide +kernel
theorem dR_resolve_158 : decode prog_9_method_15_code 158 = .ok (.iconst 1, 1) := by decide +kernel
theorem dR_resolve_159 : decode prog_9_method_15_code 159 = .ok (.isub, 1) := by decide +kernel
theorem dR_resolve_160 : decode prog_9_method_15_code 160 = .ok (.ishl, 1) := by decide +kernel
theorem dR_resolve_161 : decode prog_9_method_15_code 161 = .ok (.isub, 1) := by decide +kernel
theorem dR_resolve_162 : decode prog_9_method_15_code 162 = .ok (.iastore, 1) := by decide +kernel
theorem dR_resolve_163 : decode prog_9_method_15_code 163 = .ok (.aload_n 0, 1) := by decide +kernel
theorem dR_resolve_164 : decode prog_9_method_15_code 164 = .ok (.getfield 137, 3) := by decide +kernel
theorem dR_resolve_167 : decode prog_9_method_15_code 167 = .ok (.iload_n 3, 1) := by decide +kernel
theorem dR_resolve_168 : decode prog_9_method_15_code 168 = .ok (.iconst 1, 1) := by decide +kernel
theorem dR_resolve_169 : decode prog_9_method_15_code 169 = .ok (.iadd, 1) := by decide +kernel
theorem dR_resolve_170 : decode prog_9_method_15_code 170 = .ok (.iload 4, 2) := by decide +kernel
theorem dR_resolve_172 : decode prog_9_method_15_code 172 = .ok (.iconst 1, 1) := by decide +kernel
theorem dR_resolve_173 : decode prog_9_method_15_code 173 = .ok (.iload 5, 2) := by decide +kernel
theorem dR_resolve_175 : decode prog_9_method_15_code 175 = .ok (.iconst 1, 1) := by decide +kernel
theorem dR_resolve_176 : decode prog_9_method_15_code 176 = .ok (.isub, 1) := by decide +kernel
theorem dR_resolve_177 : decode prog_9_method_15_code 177 = .ok (.ishl, 1) := by decide +kernel
theorem dR_resolve_178 : decode prog_9_method_15_code 178 = .ok (.iadd, 1) := by decide +kernel
theorem dR_resolve_179 : decode prog_9_method_15_code 179 = .ok (.iastore, 1) := by decide +kernel
theorem dR_resolve_180 : decode prog_9_method_15_code 180 = .ok (.iinc 3 2, 3) := by decide +kernel
theorem dR_resolve_183 : decode prog_9_method_15_code 183 = .ok (.goto (-169), 3) := by decide +kernel
theorem dR_resolve_186 : decode prog_9_method_15_code 186 = .ok (.return_, 1) := by decide +kernel
theorem dR_height_0 : decode prog_9_method_10_code 0 = .ok (.iconst 0, 1) := by decide +kernel
theorem dR_height_1 : decode prog_9_method_10_code 1 = .ok (.istore_n 1, 1) := by decide +kernel
theorem dR_height_2 : decode prog_9_method_10_code 2 = .ok (.iload_n 0, 1) := by decide +kernel
theorem dR_height_3 : decode prog_9_method_10_code 3 = .ok (.iload_n 1, 1) := by decide +kernel
theorem dR_height_4 : decode prog_9_method_10_code 4 = .ok (.ishr, 1) := by decide +kernel
theorem dR_height_5 : decode prog_9_method_10_code 5 = .ok (.iconst 1, 1) := by decide +kernel
theorem dR_height_6 : decode prog_9_method_10_code 6 = .ok (.iand, 1) := by decide +kernel
theorem dR_height_7 : decode prog_9_method_10_code 7 = .ok (.iconst 1, 1) := by decide +kernel
theorem dR_height_8 : decode prog_9_method_10_code 8 = .ok (.if_icmp .ne 9, 3) := by decide +kernel
theorem dR_height_11 : decode prog_9_method_10_code 11 = .ok (.iinc 1 1, 3) := by decide +kernel
theorem dR_height_14 : decode prog_9_method_10_code 14 = .ok (.goto (-12), 3) := by decide +kernel
theorem dR_height_17 : decode prog_9_method_10_code 17 = .ok (.iload_n 1, 1) := by decide +kernel
theorem dR_height_18 : decode prog_9_method_10_code 18 = .ok (.ireturn, 1) := by decide +kernel
theorem dR_of_0 : decode prog_9_method_5_code 0 = .ok (.iconst 0, 1) := by decide +kernel
theorem dR_of_1 : decode prog_9_method_5_code 1 = .ok (.istore 4, 2) := by decide +kernel
theorem dR_of_3 : decode prog_9_method_5_code 3 = .ok (.iload 4, 2) := by decide +kernel
theorem dR_of_5 : decode prog_9_method_5_code 5 = .ok (.aload_n 0, 1) := by decide +kernel
theorem dR_of_6 : decode prog_9_method_5_code 6 = .ok (.getfield 158, 3) := by decide +kernel
theorem dR_of_9 : decode prog_9_method_5_code 9 = .ok (.if_icmp .ge 45, 3) := by decide +kernel
theorem dR_of_12 : decode prog_9_method_5_code 12 = .ok (.aload_n 0, 1) := by decide +kernel
theorem dR_of_13 : decode prog_9_method_5_code 13 = .ok (.getfield 7, 3) := by decide +kernel
theorem dR_of_16 : decode prog_9_method_5_code 16 = .ok (.iload 4, 2) := by decide +kernel
theorem dR_of_18 : decode prog_9_method_5_code 18 = .ok (.iaload, 1) := by decide +kernel
theorem dR_of_19 : decode prog_9_method_5_code 19 = .ok (.iload_n 1, 1) := by decide +kernel
theorem dR_of_20 : decode prog_9_method_5_code 20 = .ok (.if_icmp .ne 28, 3) := by decide +kernel
theorem dR_of_23 : decode prog_9_method_5_code 23 = .ok (.aload_n 0, 1) := by decide +kernel
theorem dR_of_24 : decode prog_9_method_5_code 24 = .ok (.getfield 13, 3) := by decide +kernel
theorem dR_of_27 : decode prog_9_method_5_code 27 = .ok (.iload 4, 2) := by decide +kernel
theorem dR_of_29 : decode prog_9_method_5_code 29 = .ok (.iaload, 1) := by decide +kernel
theorem dR_of_30 : decode prog_9_method_5_code 30 = .ok (.iload_n 2, 1) := by decide +kernel
theorem dR_of_31 : decode prog_9_method_5_code 31 = .ok (.if_icmp .ne 17, 3) := by decide +kernel
theorem dR_of_34 : decode prog_9_method_5_code 34 = .ok (.aload_n 0, 1) := by decide +kernel
theorem dR_of_35 : decode prog_9_method_5_code 35 = .ok (.getfield 16, 3) := by decide +kernel
theorem dR_of_38 : decode prog_9_method_5_code 38 = .ok (.iload 4, 2) := by decide +kernel
theorem dR_of_40 : decode prog_9_method_5_code 40 = .ok (.iaload, 1) := by decide +kernel
theorem dR_of_41 : decode prog_9_method_5_code 41 = .ok (.iload_n 3, 1) := by decide +kernel
theorem dR_of_42 : decode prog_9_method_5_code 42 = .ok (.if_icmp .ne 6, 3) := by decide +kernel
theorem dR_of_45 : decode prog_9_method_5_code 45 = .ok (.iload 4, 2) := by decide +kernel
theorem dR_of_47 : decode prog_9_method_5_code 47 = .ok (.ireturn, 1) := by decide +kernel
theorem dR_of_48 : decode prog_9_method_5_code 48 = .ok (.iinc 4 1, 3) := by decide +kernel
theorem dR_of_51 : decode prog_9_method_5_code 51 = .ok (.goto (-48), 3) := by decide +kernel
theorem dR_of_54 : decode prog_9_method_5_code 54 = .ok (.aload_n 0, 1) := by decide +kernel
theorem dR_of_55 : decode prog_9_method_5_code 55 = .ok (.iload_n 1, 1) := by decide +kernel
theorem dR_of_56 : decode prog_9_method_5_code 56 = .ok (.iload_n 2, 1) := by decide +kernel
theorem dR_of_57 : decode prog_9_method_5_code 57 = .ok (.iload_n 3, 1) := by decide +kernel
theorem dR_of_58 : decode prog_9_method_5_code 58 = .ok (.invokevirtual 143, 3) := by decide +kernel
theorem dR_of_61 : decode prog_9_method_5_code 61 = .ok (.ireturn, 1) := by decide +kernel
theorem dR_encrypt_0 : decode prog_9_method_6_code 0 = .ok (.aload_n 0, 1) := by decide +kernel
theorem dR_encrypt_1 : decode prog_9_method_6_code 1 = .ok (.getfield 26, 3) := by decide +kernel
theorem dR_encrypt_4 : decode prog_9_method_6_code 4 = .ok (.aload_n 0, 1) := by decide +kernel
theorem dR_encrypt_5 : decode prog_9_method_6_code 5 = .ok (.getfield 161, 3) := by decide +kernel
theorem dR_encrypt_8 : decode prog_9_method_6_code 8 = .ok (.iload_n 1, 1) := by decide +kernel
theorem dR_encrypt_9 : decode prog_9_method_6_code 9 = .ok (.iastore, 1) := by decide +kernel
theorem dR_encrypt_10 : decode prog_9_method_6_code 10 = .ok (.aload_n 0, 1) := by decide +kernel
theorem dR_encrypt_11 : decode prog_9_method_6_code 11 = .ok (.getfield 29, 3) := by decide +kernel
theorem dR_encrypt_14 : decode prog_9_method_6_code 14 = .ok (.aload_n 0, 1) := by decide +kernel
theorem dR_encrypt_15 : decode prog_9_method_6_code 15 = .ok (.getfield 161, 3) := by decide +kernel
theorem dR_encrypt_18 : decode prog_9_method_6_code 18 = .ok (.iload_n 2, 1) := by decide +kernel
theorem dR_encrypt_19 : decode prog_9_method_6_code 19 = .ok (.iastore, 1) := by decide +kernel
theorem dR_encrypt_20 : decode prog_9_method_6_code 20 = .ok (.aload_n 0, 1) := by decide +kernel
theorem dR_encrypt_21 : decode prog_9_method_6_code 21 = .ok (.getfield 32, 3) := by decide +kernel
theorem dR_encrypt_24 : decode prog_9_method_6_code 24 = .ok (.aload_n 0, 1) := by decide +kernel
theorem dR_encrypt_25 : decode prog_9_method_6_code 25 = .ok (.getfield 161, 3) := by decide +kernel
theorem dR_encrypt_28 : decode prog_9_method_6_code 28 = .ok (.aload_n 0, 1) := by decide +kernel
theorem dR_encrypt_29 : decode prog_9_method_6_code 29 = .ok (.getfield 151, 3) := by decide +kernel
theorem dR_encrypt_32 : decode prog_9_method_6_code 32 = .ok (.iastore, 1) := by decide +kernel
theorem dR_encrypt_33 : decode prog_9_method_6_code 33 = .ok (.aload_n 0, 1) := by decide +kernel
theorem dR_encrypt_34 : decode prog_9_method_6_code 34 = .ok (.getfield 35, 3) := by decide +kernel
theorem dR_encrypt_37 : decode prog_9_method_6_code 37 = .ok (.aload_n 0, 1) := by decide +kernel
theorem dR_encrypt_38 : decode prog_9_method_6_code 38 = .ok (.getfield 161, 3) := by decide +kernel
theorem dR_encrypt_41 : decode prog_9_method_6_code 41 = .ok (.iload_n 3, 1) := by decide +kernel
theorem dR_encrypt_42 : decode prog_9_method_6_code 42 = .ok (.iastore, 1) := by decide +kernel
theorem dR_encrypt_43 : decode prog_9_method_6_code 43 = .ok (.aload_n 0, 1) := by decide +kernel
theorem dR_encrypt_44 : decode prog_9_method_6_code 44 = .ok (.dup, 1) := by decide +kernel
theorem dR_encrypt_45 : decode prog_9_method_6_code 45 = .ok (.getfield 161, 3) := by decide +kernel
theorem dR_encrypt_48 : decode prog_9_method_6_code 48 = .ok (.iconst 1, 1) := by decide +kernel
theorem dR_encrypt_49 : decode prog_9_method_6_code 49 = .ok (.iadd, 1) := by decide +kernel
theorem dR_encrypt_50 : decode prog_9_method_6_code 50 = .ok (.putfield 161, 3) := by decide +kernel
theorem dR_encrypt_53 : decode prog_9_method_6_code 53 = .ok (.aload_n 0, 1) := by decide +kernel
theorem dR_encrypt_54 : decode prog_9_method_6_code 54 = .ok (.getfield 59, 3) := by decide +kernel
theorem dR_encrypt_57 : decode prog_9_method_6_code 57 = .ok (.aload_n 0, 1) := by decide +kernel
theorem dR_encrypt_58 : decode prog_9_method_6_code 58 = .ok (.getfield 151, 3) := by decide +kernel
theorem dR_encrypt_61 : decode prog_9_method_6_code 61 = .ok (.dup2, 1) := by decide +kernel
theorem dR_encrypt_62 : decode prog_9_method_6_code 62 = .ok (.iaload, 1) := by decide +kernel
theorem dR_encrypt_63 : decode prog_9_method_6_code 63 = .ok (.iconst 1, 1) := by decide +kernel
theorem dR_encrypt_64 : decode prog_9_method_6_code 64 = .ok (.iadd, 1) := by decide +kernel
theorem dR_encrypt_65 : decode prog_9_method_6_code 65 = .ok (.iastore, 1) := by decide +kernel
theorem dR_encrypt_66 : decode prog_9_method_6_code 66 = .ok (.return_, 1) := by decide +kernel
theorem dR_welcome_0 : decode prog_9_method_33_code 0 = .ok (.iconst 0, 1) := by decide +kernel
theorem dR_welcome_1 : decode prog_9_method_33_code 1 = .ok (.istore_n 3, 1) := by decide +kernel
theorem dR_welcome_2 : decode prog_9_method_33_code 2 = .ok (.iload_n 3, 1) := by decide +kernel
theorem dR_welcome_3 : decode prog_9_method_33_code 3 = .ok (.aload_n 0, 1) := by decide +kernel
theorem dR_welcome_4 : decode prog_9_method_33_code 4 = .ok (.getfield 189, 3) := by decide +kernel
theorem dR_welcome_7 : decode prog_9_method_33_code 7 = .ok (.if_icmp .ge 89, 3) := by decide +kernel
theorem dR_welcome_10 : decode prog_9_method_33_code 10 = .ok (.aload_n 0, 1) := by decide +kernel
theorem dR_welcome_11 : decode prog_9_method_33_code 11 = .ok (.getfield 113, 3) := by decide +kernel
theorem dR_welcome_14 : decode prog_9_method_33_code 14 = .ok (.iload_n 3, 1) := by decide +kernel
theorem dR_welcome_15 : decode prog_9_method_33_code 15 = .ok (.iaload, 1) := by decide +kernel
theorem dR_welcome_16 : decode prog_9_method_33_code 16 = .ok (.iload_n 1, 1) := by decide +kernel
theorem dR_welcome_17 : decode prog_9_method_33_code 17 = .ok (.if_icmp .eq 6, 3) := by decide +kernel
theorem dR_welcome_20 : decode prog_9_method_33_code 20 = .ok (.goto 70, 3) := by decide +kernel
theorem dR_welcome_23 : decode prog_9_method_33_code 23 = .ok (.aload_n 0, 1) := by decide +kernel
theorem dR_welcome_24 : decode prog_9_method_33_code 24 = .ok (.aload_n 0, 1) := by decide +kernel
theorem dR_welcome_25 : decode prog_9_method_33_code 25 = .ok (.getfield 107, 3) := by decide +kernel
theorem dR_welcome_28 : decode prog_9_method_33_code 28 = .ok (.iload_n 3, 1) := by decide +kernel
theorem dR_welcome_29 : decode prog_9_method_33_code 29 = .ok (.iaload, 1) := by decide +kernel
theorem dR_welcome_30 : decode prog_9_method_33_code 30 = .ok (.iload_n 2, 1) := by decide +kernel
theorem dR_welcome_31 : decode prog_9_method_33_code 31 = .ok (.iconst (-1), 1) := by decide +kernel
theorem dR_welcome_32 : decode prog_9_method_33_code 32 = .ok (.invokevirtual 224, 3) := by decide +kernel
theorem dR_welcome_35 : decode prog_9_method_33_code 35 = .ok (.aload_n 0, 1) := by decide +kernel
theorem dR_welcome_36 : decode prog_9_method_33_code 36 = .ok (.getfield 62, 3) := by decide +kernel
theorem dR_welcome_39 : decode prog_9_method_33_code 39 = .ok (.iload_n 1, 1) := by decide +kernel
theorem dR_welcome_40 : decode prog_9_method_33_code 40 = .ok (.baload, 1) := by decide +kernel
theorem dR_welcome_41 : decode prog_9_method_33_code 41 = .ok (.ifCond .eq 17, 3) := by decide +kernel
theorem dR_welcome_44 : decode prog_9_method_33_code 44 = .ok (.aload_n 0, 1) := by decide +kernel
theorem dR_welcome_45 : decode prog_9_method_33_code 45 = .ok (.iload_n 1, 1) := by decide +kernel
theorem dR_welcome_46 : decode prog_9_method_33_code 46 = .ok (.aload_n 0, 1) := by decide +kernel
theorem dR_welcome_47 : decode prog_9_method_33_code 47 = .ok (.getfield 116, 3) := by decide +kernel
theorem dR_welcome_50 : decode prog_9_method_33_code 50 = .ok (.iload_n 3, 1) := by decide +kernel
theorem dR_welcome_51 : decode prog_9_method_33_code 51 = .ok (.iaload, 1) := by decide +kernel
theorem dR_welcome_52 : decode prog_9_method_33_code 52 = .ok (.invokevirtual 227, 3) := by decide +kernel
theorem dR_welcome_55 : decode prog_9_method_33_code 55 = .ok (.goto 4, 3) := by decide +kernel
theorem dR_welcome_58 : decode prog_9_method_33_code 58 = .ok (.iconst (-1), 1) := by decide +kernel
theorem dR_welcome_59 : decode prog_9_method_33_code 59 = .ok (.istore 4, 2) := by decide +kernel
theorem dR_welcome_61 : decode prog_9_method_33_code 61 = .ok (.iload 4, 2) := by decide +kernel
theorem dR_welcome_63 : decode prog_9_method_33_code 63 = .ok (.iconst (-1), 1) := by decide +kernel
theorem dR_welcome_64 : decode prog_9_method_33_code 64 = .ok (.if_icmp .eq 26, 3) := by decide +kernel
theorem dR_welcome_67 : decode prog_9_method_33_code 67 = .ok (.aload_n 0, 1) := by decide +kernel
theorem dR_welcome_68 : decode prog_9_method_33_code 68 = .ok (.aload_n 0, 1) := by decide +kernel
theorem dR_welcome_69 : decode prog_9_method_33_code 69 = .ok (.getfield 107, 3) := by decide +kernel
theorem dR_welcome_72 : decode prog_9_method_33_code 72 = .ok (.iload_n 3, 1) := by decide +kernel
theorem dR_welcome_73 : decode prog_9_method_33_code 73 = .ok (.iaload, 1) := by decide +kernel
theorem dR_welcome_74 : decode prog_9_method_33_code 74 = .ok (.aload_n 0, 1) := by decide +kernel
theorem dR_welcome_75 : decode prog_9_method_33_code 75 = .ok (.getfield 74, 3) := by decide +kernel
theorem dR_welcome_78 : decode prog_9_method_33_code 78 = .ok (.bipush 31, 2) := by decide +kernel
theorem dR_welcome_80 : decode prog_9_method_33_code 80 = .ok (.iload_n 1, 1) := by decide +kernel
theorem dR_welcome_81 : decode prog_9_method_33_code 81 = .ok (.imul, 1) := by decide +kernel
theorem dR_welcome_82 : decode prog_9_method_33_code 82 = .ok (.iload 4, 2) := by decide +kernel
theorem dR_welcome_84 : decode prog_9_method_33_code 84 = .ok (.iadd, 1) := by decide +kernel
theorem dR_welcome_85 : decode prog_9_method_33_code 85 = .ok (.iaload, 1) := by decide +kernel
theorem dR_welcome_86 : decode prog_9_method_33_code 86 = .ok (.iconst (-1), 1) := by decide +kernel
theorem dR_welcome_87 : decode prog_9_method_33_code 87 = .ok (.invokevirtual 224, 3) := by decide +kernel
theorem dR_welcome_90 : decode prog_9_method_33_code 90 = .ok (.iinc 3 1, 3) := by decide +kernel
theorem dR_welcome_93 : decode prog_9_method_33_code 93 = .ok (.goto (-91), 3) := by decide +kernel
theorem dR_welcome_96 : decode prog_9_method_33_code 96 = .ok (.return_, 1) := by decide +kernel
theorem dR_meeting_0 : decode prog_9_method_32_code 0 = .ok (.iconst 1, 1) := by decide +kernel
theorem dR_meeting_1 : decode prog_9_method_32_code 1 = .ok (.istore_n 3, 1) := by decide +kernel
theorem dR_meeting_2 : decode prog_9_method_32_code 2 = .ok (.iload_n 3, 1) := by decide +kernel
theorem dR_meeting_3 : decode prog_9_method_32_code 3 = .ok (.aload_n 0, 1) := by decide +kernel
theorem dR_meeting_4 : decode prog_9_method_32_code 4 = .ok (.getfield 38, 3) := by decide +kernel
theorem dR_meeting_7 : decode prog_9_method_32_code 7 = .ok (.iload_n 1, 1) := by decide +kernel
theorem dR_meeting_8 : decode prog_9_method_32_code 8 = .ok (.iaload, 1) := by decide +kernel
theorem dR_meeting_9 : decode prog_9_method_32_code 9 = .ok (.if_icmp .gt 33, 3) := by decide +kernel
theorem dR_meeting_12 : decode prog_9_method_32_code 12 = .ok (.aload_n 0, 1) := by decide +kernel
theorem dR_meeting_13 : decode prog_9_method_32_code 13 = .ok (.getfield 47, 3) := by decide +kernel
theorem dR_meeting_16 : decode prog_9_method_32_code 16 = .ok (.iload_n 1, 1) := by decide +kernel
theorem dR_meeting_17 : decode prog_9_method_32_code 17 = .ok (.iaload, 1) := by decide +kernel
theorem dR_meeting_18 : decode prog_9_method_32_code 18 = .ok (.iload_n 2, 1) := by decide +kernel
theorem dR_meeting_19 : decode prog_9_method_32_code 19 = .ok (.iload_n 3, 1) := by decide +kernel
theorem dR_meeting_20 : decode prog_9_method_32_code 20 = .ok (.invokestatic 168, 3) := by decide +kernel
theorem dR_meeting_23 : decode prog_9_method_32_code 23 = .ok (.ishr, 1) := by decide +kernel
theorem dR_meeting_24 : decode prog_9_method_32_code 24 = .ok (.iconst 1, 1) := by decide +kernel
theorem dR_meeting_25 : decode prog_9_method_32_code 25 = .ok (.iand, 1) := by decide +kernel
theorem dR_meeting_26 : decode prog_9_method_32_code 26 = .ok (.iconst 1, 1) := by decide +kernel
theorem dR_meeting_27 : decode prog_9_method_32_code 27 = .ok (.if_icmp .ne 9, 3) := by decide +kernel
theorem dR_meeting_30 : decode prog_9_method_32_code 30 = .ok (.iload_n 2, 1) := by decide +kernel
theorem dR_meeting_31 : decode prog_9_method_32_code 31 = .ok (.iload_n 3, 1) := by decide +kernel
theorem dR_meeting_32 : decode prog_9_method_32_code 32 = .ok (.invokestatic 168, 3) := by decide +kernel
theorem dR_meeting_35 : decode prog_9_method_32_code 35 = .ok (.ireturn, 1) := by decide +kernel
theorem dR_meeting_36 : decode prog_9_method_32_code 36 = .ok (.iinc 3 1, 3) := by decide +kernel
theorem dR_meeting_39 : decode prog_9_method_32_code 39 = .ok (.goto (-37), 3) := by decide +kernel
theorem dR_meeting_42 : decode prog_9_method_32_code 42 = .ok (.iconst (-1), 1) := by decide +kernel
theorem dR_meeting_43 : decode prog_9_method_32_code 43 = .ok (.ireturn, 1) := by decide +kernel
theorem dR_advance_0 : decode prog_9_method_36_code 0 = .ok (.aload_n 0, 1) := by decide +kernel
theorem dR_advance_1 : decode prog_9_method_36_code 1 = .ok (.getfield 80, 3) := by decide +kernel
theorem dR_advance_4 : decode prog_9_method_36_code 4 = .ok (.iload_n 1, 1) := by decide +kernel
theorem dR_advance_5 : decode prog_9_method_36_code 5 = .ok (.iload_n 2, 1) := by decide +kernel
theorem dR_advance_6 : decode prog_9_method_36_code 6 = .ok (.iastore, 1) := by decide +kernel
theorem dR_advance_7 : decode prog_9_method_36_code 7 = .ok (.aload_n 0, 1) := by decide +kernel
theorem dR_advance_8 : decode prog_9_method_36_code 8 = .ok (.getfield 92, 3) := by decide +kernel
theorem dR_advance_11 : decode prog_9_method_36_code 11 = .ok (.iload_n 1, 1) := by decide +kernel
theorem dR_advance_12 : decode prog_9_method_36_code 12 = .ok (.iconst 0, 1) := by decide +kernel
theorem dR_advance_13 : decode prog_9_method_36_code 13 = .ok (.iastore, 1) := by decide +kernel
theorem dR_advance_14 : decode prog_9_method_36_code 14 = .ok (.aload_n 0, 1) := by decide +kernel
theorem dR_advance_15 : decode prog_9_method_36_code 15 = .ok (.getfield 86, 3) := by decide +kernel
theorem dR_advance_18 : decode prog_9_method_36_code 18 = .ok (.iload_n 1, 1) := by decide +kernel
theorem dR_advance_19 : decode prog_9_method_36_code 19 = .ok (.aload_n 0, 1) := by decide +kernel
theorem dR_advance_20 : decode prog_9_method_36_code 20 = .ok (.getfield 65, 3) := by decide +kernel
theorem dR_advance_23 : decode prog_9_method_36_code 23 = .ok (.bipush 31, 2) := by decide +kernel
theorem dR_advance_25 : decode prog_9_method_36_code 25 = .ok (.iload_n 2, 1) := by decide +kernel
theorem dR_advance_26 : decode prog_9_method_36_code 26 = .ok (.imul, 1) := by decide +kernel
theorem dR_advance_27 : decode prog_9_method_36_code 27 = .ok (.iconst 2, 1) := by decide +kernel
theorem dR_advance_28 : decode prog_9_method_36_code 28 = .ok (.aload_n 0, 1) := by decide +kernel
theorem dR_advance_29 : decode prog_9_method_36_code 29 = .ok (.getfield 83, 3) := by decide +kernel
theorem dR_advance_32 : decode prog_9_method_36_code 32 = .ok (.iload_n 1, 1) := by decide +kernel
theorem dR_advance_33 : decode prog_9_method_36_code 33 = .ok (.iaload, 1) := by decide +kernel
theorem dR_advance_34 : decode prog_9_method_36_code 34 = .ok (.imul, 1) := by decide +kernel
theorem dR_advance_35 : decode prog_9_method_36_code 35 = .ok (.iadd, 1) := by decide +kernel
theorem dR_advance_36 : decode prog_9_method_36_code 36 = .ok (.iaload, 1) := by decide +kernel
theorem dR_advance_37 : decode prog_9_method_36_code 37 = .ok (.iastore, 1) := by decide +kernel
theorem dR_advance_38 : decode prog_9_method_36_code 38 = .ok (.aload_n 0, 1) := by decide +kernel
theorem dR_advance_39 : decode prog_9_method_36_code 39 = .ok (.iload_n 1, 1) := by decide +kernel
theorem dR_advance_40 : decode prog_9_method_36_code 40 = .ok (.iload_n 2, 1) := by decide +kernel
theorem dR_advance_41 : decode prog_9_method_36_code 41 = .ok (.invokevirtual 230, 3) := by decide +kernel
theorem dR_advance_44 : decode prog_9_method_36_code 44 = .ok (.iload_n 3, 1) := by decide +kernel
theorem dR_advance_45 : decode prog_9_method_36_code 45 = .ok (.ifCond .eq 28, 3) := by decide +kernel
theorem dR_advance_48 : decode prog_9_method_36_code 48 = .ok (.aload_n 0, 1) := by decide +kernel
theorem dR_advance_49 : decode prog_9_method_36_code 49 = .ok (.getfield 38, 3) := by decide +kernel
theorem dR_advance_52 : decode prog_9_method_36_code 52 = .ok (.iload_n 2, 1) := by decide +kernel
theorem dR_advance_53 : decode prog_9_method_36_code 53 = .ok (.iaload, 1) := by decide +kernel
theorem dR_advance_54 : decode prog_9_method_36_code 54 = .ok (.ifCond .le 19, 3) := by decide +kernel
theorem dR_advance_57 : decode prog_9_method_36_code 57 = .ok (.aload_n 0, 1) := by decide +kernel
theorem dR_advance_58 : decode prog_9_method_36_code 58 = .ok (.iload_n 1, 1) := by decide +kernel
theorem dR_advance_59 : decode prog_9_method_36_code 59 = .ok (.iload_n 2, 1) := by decide +kernel
theorem dR_advance_60 : decode prog_9_method_36_code 60 = .ok (.aload_n 0, 1) := by decide +kernel
theorem dR_advance_61 : decode prog_9_method_36_code 61 = .ok (.getfield 83, 3) := by decide +kernel
theorem dR_advance_64 : decode prog_9_method_36_code 64 = .ok (.iload_n 1, 1) := by decide +kernel
theorem dR_advance_65 : decode prog_9_method_36_code 65 = .ok (.iaload, 1) := by decide +kernel
theorem dR_advance_66 : decode prog_9_method_36_code 66 = .ok (.iconst 1, 1) := by decide +kernel
theorem dR_advance_67 : decode prog_9_method_36_code 67 = .ok (.invokestatic 168, 3) := by decide +kernel
theorem dR_advance_70 : decode prog_9_method_36_code 70 = .ok (.invokevirtual 233, 3) := by decide +kernel
theorem dR_advance_73 : decode prog_9_method_36_code 73 = .ok (.return_, 1) := by decide +kernel
theorem dR_keep_0 : decode prog_9_method_34_code 0 = .ok (.iconst 0, 1) := by decide +kernel
theorem dR_keep_1 : decode prog_9_method_34_code 1 = .ok (.istore_n 3, 1) := by decide +kernel
theorem dR_keep_2 : decode prog_9_method_34_code 2 = .ok (.iload_n 3, 1) := by decide +kernel
theorem dR_keep_3 : decode prog_9_method_34_code 3 = .ok (.bipush 31, 2) := by decide +kernel
theorem dR_keep_5 : decode prog_9_method_34_code 5 = .ok (.if_icmp .ge 91, 3) := by decide +kernel
theorem dR_keep_8 : decode prog_9_method_34_code 8 = .ok (.bipush 31, 2) := by decide +kernel
theorem dR_keep_10 : decode prog_9_method_34_code 10 = .ok (.iload_n 1, 1) := by decide +kernel
theorem dR_keep_11 : decode prog_9_method_34_code 11 = .ok (.imul, 1) := by decide +kernel
theorem dR_keep_12 : decode prog_9_method_34_code 12 = .ok (.iload_n 3, 1) := by decide +kernel
theorem dR_keep_13 : decode prog_9_method_34_code 13 = .ok (.iadd, 1) := by decide +kernel
theorem dR_keep_14 : decode prog_9_method_34_code 14 = .ok (.istore 4, 2) := by decide +kernel
theorem dR_keep_16 : decode prog_9_method_34_code 16 = .ok (.iload_n 3, 1) := by decide +kernel
theorem dR_keep_17 : decode prog_9_method_34_code 17 = .ok (.aload_n 0, 1) := by decide +kernel
theorem dR_keep_18 : decode prog_9_method_34_code 18 = .ok (.iload_n 2, 1) := by decide +kernel
theorem dR_keep_19 : decode prog_9_method_34_code 19 = .ok (.invokevirtual 192, 3) := by decide +kernel
theorem dR_keep_22 : decode prog_9_method_34_code 22 = .ok (.if_icmp .ge 31, 3) := by decide +kernel
theorem dR_keep_25 : decode prog_9_method_34_code 25 = .ok (.iload_n 3, 1) := by decide +kernel
theorem dR_keep_26 : decode prog_9_method_34_code 26 = .ok (.invokestatic 179, 3) := by decide +kernel
theorem dR_keep_29 : decode prog_9_method_34_code 29 = .ok (.ifCond .le 24, 3) := by decide +kernel
theorem dR_keep_32 : decode prog_9_method_34_code 32 = .ok (.aload_n 0, 1) := by decide +kernel
theorem dR_keep_33 : decode prog_9_method_34_code 33 = .ok (.getfield 83, 3) := by decide +kernel
theorem dR_keep_36 : decode prog_9_method_34_code 36 = .ok (.iload_n 1, 1) := by decide +kernel
theorem dR_keep_37 : decode prog_9_method_34_code 37 = .ok (.iaload, 1) := by decide +kernel
theorem dR_keep_38 : decode prog_9_method_34_code 38 = .ok (.iload_n 3, 1) := by decide +kernel
theorem dR_keep_39 : decode prog_9_method_34_code 39 = .ok (.invokestatic 179, 3) := by decide +kernel
theorem dR_keep_42 : decode prog_9_method_34_code 42 = .ok (.invokestatic 168, 3) := by decide +kernel
theorem dR_keep_45 : decode prog_9_method_34_code 45 = .ok (.iload_n 3, 1) := by decide +kernel
theorem dR_keep_46 : decode prog_9_method_34_code 46 = .ok (.if_icmp .ne 7, 3) := by decide +kernel
theorem dR_keep_49 : decode prog_9_method_34_code 49 = .ok (.iconst 1, 1) := by decide +kernel
theorem dR_keep_50 : decode prog_9_method_34_code 50 = .ok (.goto 4, 3) := by decide +kernel
theorem dR_keep_53 : decode prog_9_method_34_code 53 = .ok (.iconst 0, 1) := by decide +kernel
theorem dR_keep_54 : decode prog_9_method_34_code 54 = .ok (.istore 5, 2) := by decide +kernel
theorem dR_keep_56 : decode prog_9_method_34_code 56 = .ok (.iload 5, 2) := by decide +kernel
theorem dR_keep_58 : decode prog_9_method_34_code 58 = .ok (.ifCond .eq 24, 3) := by decide +kernel
theorem dR_keep_61 : decode prog_9_method_34_code 61 = .ok (.aload_n 0, 1) := by decide +kernel
theorem dR_keep_62 : decode prog_9_method_34_code 62 = .ok (.getfield 65, 3) := by decide +kernel
theorem dR_keep_65 : decode prog_9_method_34_code 65 = .ok (.bipush 31, 2) := by decide +kernel
theorem dR_keep_67 : decode prog_9_method_34_code 67 = .ok (.iload_n 2, 1) := by decide +kernel
theorem dR_keep_68 : decode prog_9_method_34_code 68 = .ok (.imul, 1) := by decide +kernel
theorem dR_keep_69 : decode prog_9_method_34_code 69 = .ok (.iload_n 3, 1) := by decide +kernel
theorem dR_keep_70 : decode prog_9_method_34_code 70 = .ok (.iadd, 1) := by decide +kernel
theorem dR_keep_71 : decode prog_9_method_34_code 71 = .ok (.iaload, 1) := by decide +kernel
theorem dR_keep_72 : decode prog_9_method_34_code 72 = .ok (.aload_n 0, 1) := by decide +kernel
theorem dR_keep_73 : decode prog_9_method_34_code 73 = .ok (.getfield 98, 3) := by decide +kernel
theorem dR_keep_76 : decode prog_9_method_34_code 76 = .ok (.iload 4, 2) := by decide +kernel
theorem dR_keep_78 : decode prog_9_method_34_code 78 = .ok (.iaload, 1) := by decide +kernel
theorem dR_keep_79 : decode prog_9_method_34_code 79 = .ok (.if_icmp .eq 11, 3) := by decide +kernel
theorem dR_keep_82 : decode prog_9_method_34_code 82 = .ok (.aload_n 0, 1) := by decide +kernel
theorem dR_keep_83 : decode prog_9_method_34_code 83 = .ok (.getfield 98, 3) := by decide +kernel
theorem dR_keep_86 : decode prog_9_method_34_code 86 = .ok (.iload 4, 2) := by decide +kernel
theorem dR_keep_88 : decode prog_9_method_34_code 88 = .ok (.iconst (-1), 1) := by decide +kernel
theorem dR_keep_89 : decode prog_9_method_34_code 89 = .ok (.iastore, 1) := by decide +kernel
theorem dR_keep_90 : decode prog_9_method_34_code 90 = .ok (.iinc 3 1, 3) := by decide +kernel
theorem dR_keep_93 : decode prog_9_method_34_code 93 = .ok (.goto (-91), 3) := by decide +kernel
theorem dR_keep_96 : decode prog_9_method_34_code 96 = .ok (.return_, 1) := by decide +kernel
theorem dR_tell_0 : decode prog_9_method_35_code 0 = .ok (.iload_n 3, 1) := by decide +kernel
theorem dR_tell_1 : decode prog_9_method_35_code 1 = .ok (.invokestatic 179, 3) := by decide +kernel
theorem dR_tell_4 : decode prog_9_method_35_code 4 = .ok (.istore 4, 2) := by decide +kernel
theorem dR_tell_6 : decode prog_9_method_35_code 6 = .ok (.iload 4, 2) := by decide +kernel
theorem dR_tell_8 : decode prog_9_method_35_code 8 = .ok (.aload_n 0, 1) := by decide +kernel
theorem dR_tell_9 : decode prog_9_method_35_code 9 = .ok (.getfield 38, 3) := by decide +kernel
theorem dR_tell_12 : decode prog_9_method_35_code 12 = .ok (.iload_n 2, 1) := by decide +kernel
theorem dR_tell_13 : decode prog_9_method_35_code 13 = .ok (.iaload, 1) := by decide +kernel
theorem dR_tell_14 : decode prog_9_method_35_code 14 = .ok (.if_icmp .gt 61, 3) := by decide +kernel
theorem dR_tell_17 : decode prog_9_method_35_code 17 = .ok (.aload_n 0, 1) := by decide +kernel
theorem dR_tell_18 : decode prog_9_method_35_code 18 = .ok (.getfield 83, 3) := by decide +kernel
theorem dR_tell_21 : decode prog_9_method_35_code 21 = .ok (.iload_n 1, 1) := by decide +kernel
theorem dR_tell_22 : decode prog_9_method_35_code 22 = .ok (.iaload, 1) := by decide +kernel
theorem dR_tell_23 : decode prog_9_method_35_code 23 = .ok (.iload 4, 2) := by decide +kernel
theorem dR_tell_25 : decode prog_9_method_35_code 25 = .ok (.invokestatic 168, 3) := by decide +kernel
theorem dR_tell_28 : decode prog_9_method_35_code 28 = .ok (.istore 5, 2) := by decide +kernel
theorem dR_tell_30 : decode prog_9_method_35_code 30 = .ok (.aload_n 0, 1) := by decide +kernel
theorem dR_tell_31 : decode prog_9_method_35_code 31 = .ok (.getfield 47, 3) := by decide +kernel
theorem dR_tell_34 : decode prog_9_method_35_code 34 = .ok (.iload_n 2, 1) := by decide +kernel
theorem dR_tell_35 : decode prog_9_method_35_code 35 = .ok (.iaload, 1) := by decide +kernel
theorem dR_tell_36 : decode prog_9_method_35_code 36 = .ok (.iload 5, 2) := by decide +kernel
theorem dR_tell_38 : decode prog_9_method_35_code 38 = .ok (.ishr, 1) := by decide +kernel
theorem dR_tell_39 : decode prog_9_method_35_code 39 = .ok (.iconst 1, 1) := by decide +kernel
theorem dR_tell_40 : decode prog_9_method_35_code 40 = .ok (.iand, 1) := by decide +kernel
theorem dR_tell_41 : decode prog_9_method_35_code 41 = .ok (.iconst 1, 1) := by decide +kernel
theorem dR_tell_42 : decode prog_9_method_35_code 42 = .ok (.if_icmp .ne 27, 3) := by decide +kernel
theorem dR_tell_45 : decode prog_9_method_35_code 45 = .ok (.aload_n 0, 1) := by decide +kernel
theorem dR_tell_46 : decode prog_9_method_35_code 46 = .ok (.getfield 98, 3) := by decide +kernel
theorem dR_tell_49 : decode prog_9_method_35_code 49 = .ok (.bipush 31, 2) := by decide +kernel
theorem dR_tell_51 : decode prog_9_method_35_code 51 = .ok (.iload_n 1, 1) := by decide +kernel
theorem dR_tell_52 : decode prog_9_method_35_code 52 = .ok (.imul, 1) := by decide +kernel
theorem dR_tell_53 : decode prog_9_method_35_code 53 = .ok (.iload 5, 2) := by decide +kernel
theorem dR_tell_55 : decode prog_9_method_35_code 55 = .ok (.iadd, 1) := by decide +kernel
theorem dR_tell_56 : decode prog_9_method_35_code 56 = .ok (.aload_n 0, 1) := by decide +kernel
theorem dR_tell_57 : decode prog_9_method_35_code 57 = .ok (.getfield 65, 3) := by decide +kernel
theorem dR_tell_60 : decode prog_9_method_35_code 60 = .ok (.bipush 31, 2) := by decide +kernel
theorem dR_tell_62 : decode prog_9_method_35_code 62 = .ok (.iload_n 2, 1) := by decide +kernel
theorem dR_tell_63 : decode prog_9_method_35_code 63 = .ok (.imul, 1) := by decide +kernel
theorem dR_tell_64 : decode prog_9_method_35_code 64 = .ok (.iload 5, 2) := by decide +kernel
theorem dR_tell_66 : decode prog_9_method_35_code 66 = .ok (.iadd, 1) := by decide +kernel
theorem dR_tell_67 : decode prog_9_method_35_code 67 = .ok (.iaload, 1) := by decide +kernel
theorem dR_tell_68 : decode prog_9_method_35_code 68 = .ok (.iastore, 1) := by decide +kernel
theorem dR_tell_69 : decode prog_9_method_35_code 69 = .ok (.iinc 4 1, 3) := by decide +kernel
theorem dR_tell_72 : decode prog_9_method_35_code 72 = .ok (.goto (-66), 3) := by decide +kernel
theorem dR_tell_75 : decode prog_9_method_35_code 75 = .ok (.return_, 1) := by decide +kernel
theorem dR_come_0 : decode prog_9_method_48_code 0 = .ok (.iload_n 1, 1) := by decide +kernel
theorem dR_come_1 : decode prog_9_method_48_code 1 = .ok (.istore_n 2, 1) := by decide +kernel
theorem dR_come_2 : decode prog_9_method_48_code 2 = .ok (.iload_n 2, 1) := by decide +kernel
theorem dR_come_3 : decode prog_9_method_48_code 3 = .ok (.bipush 16, 2) := by decide +kernel
theorem dR_come_5 : decode prog_9_method_48_code 5 = .ok (.invokestatic 264, 3) := by decide +kernel
theorem dR_come_8 : decode prog_9_method_48_code 8 = .ok (.ifCond .eq 21, 3) := by decide +kernel
theorem dR_come_11 : decode prog_9_method_48_code 11 = .ok (.aload_n 0, 1) := by decide +kernel
theorem dR_come_12 : decode prog_9_method_48_code 12 = .ok (.getfield 80, 3) := by decide +kernel
theorem dR_come_15 : decode prog_9_method_48_code 15 = .ok (.iload_n 2, 1) := by decide +kernel
theorem dR_come_16 : decode prog_9_method_48_code 16 = .ok (.iaload, 1) := by decide +kernel
theorem dR_come_17 : decode prog_9_method_48_code 17 = .ok (.iconst (-1), 1) := by decide +kernel
theorem dR_come_18 : decode prog_9_method_48_code 18 = .ok (.if_icmp .ne 11, 3) := by decide +kernel
theorem dR_come_21 : decode prog_9_method_48_code 21 = .ok (.aload_n 0, 1) := by decide +kernel
theorem dR_come_22 : decode prog_9_method_48_code 22 = .ok (.iload_n 2, 1) := by decide +kernel
theorem dR_come_23 : decode prog_9_method_48_code 23 = .ok (.invokevirtual 287, 3) := by decide +kernel
theorem dR_come_26 : decode prog_9_method_48_code 26 = .ok (.goto 4, 3) := by decide +kernel
theorem dR_come_29 : decode prog_9_method_48_code 29 = .ok (.iconst (-1), 1) := by decide +kernel
theorem dR_come_30 : decode prog_9_method_48_code 30 = .ok (.istore_n 3, 1) := by decide +kernel
theorem dR_come_31 : decode prog_9_method_48_code 31 = .ok (.aload_n 0, 1) := by decide +kernel
theorem dR_come_32 : decode prog_9_method_48_code 32 = .ok (.iload_n 2, 1) := by decide +kernel
theorem dR_come_33 : decode prog_9_method_48_code 33 = .ok (.bipush 16, 2) := by decide +kernel
theorem dR_come_35 : decode prog_9_method_48_code 35 = .ok (.invokestatic 264, 3) := by decide +kernel
theorem dR_come_38 : decode prog_9_method_48_code 38 = .ok (.ifCond .ne 7, 3) := by decide +kernel
theorem dR_come_41 : decode prog_9_method_48_code 41 = .ok (.iconst 1, 1) := by decide +kernel
theorem dR_come_42 : decode prog_9_method_48_code 42 = .ok (.goto 31, 3) := by decide +kernel
theorem dR_come_45 : decode prog_9_method_48_code 45 = .ok (.aload_n 0, 1) := by decide +kernel
theorem dR_come_46 : decode prog_9_method_48_code 46 = .ok (.iload_n 2, 1) := by decide +kernel
theorem dR_come_47 : decode prog_9_method_48_code 47 = .ok (.invokevirtual 267, 3) := by decide +kernel
theorem dR_come_50 : decode prog_9_method_48_code 50 = .ok (.ifCond .ne 18, 3) := by decide +kernel
theorem dR_come_53 : decode prog_9_method_48_code 53 = .ok (.aload_n 0, 1) := by decide +kernel
theorem dR_come_54 : decode prog_9_method_48_code 54 = .ok (.getfield 80, 3) := by decide +kernel
theorem dR_come_57 : decode prog_9_method_48_code 57 = .ok (.iload_n 2, 1) := by decide +kernel
theorem dR_come_58 : decode prog_9_method_48_code 58 = .ok (.iaload, 1) := by decide +kernel
theorem dR_come_59 : decode prog_9_method_48_code 59 = .ok (.iconst (-1), 1) := by decide +kernel
theorem dR_come_60 : decode prog_9_method_48_code 60 = .ok (.if_icmp .ne 12, 3) := by decide +kernel
theorem dR_come_63 : decode prog_9_method_48_code 63 = .ok (.iload_n 3, 1) := by decide +kernel
theorem dR_come_64 : decode prog_9_method_48_code 64 = .ok (.iconst (-1), 1) := by decide +kernel
theorem dR_come_65 : decode prog_9_method_48_code 65 = .ok (.if_icmp .ne 7, 3) := by decide +kernel
theorem dR_come_68 : decode prog_9_method_48_code 68 = .ok (.iconst 2, 1) := by decide +kernel
theorem dR_come_69 : decode prog_9_method_48_code 69 = .ok (.goto 4, 3) := by decide +kernel
theorem dR_come_72 : decode prog_9_method_48_code 72 = .ok (.iconst 0, 1) := by decide +kernel
theorem dR_come_73 : decode prog_9_method_48_code 73 = .ok (.putfield 155, 3) := by decide +kernel
theorem dR_come_76 : decode prog_9_method_48_code 76 = .ok (.aload_n 0, 1) := by decide +kernel
theorem dR_come_77 : decode prog_9_method_48_code 77 = .ok (.getfield 155, 3) := by decide +kernel
theorem dR_come_80 : decode prog_9_method_48_code 80 = .ok (.ifCond .le 5, 3) := by decide +kernel
theorem dR_come_83 : decode prog_9_method_48_code 83 = .ok (.iconst 0, 1) := by decide +kernel
theorem dR_come_84 : decode prog_9_method_48_code 84 = .ok (.ireturn, 1) := by decide +kernel
theorem dR_come_85 : decode prog_9_method_48_code 85 = .ok (.aload_n 0, 1) := by decide +kernel
theorem dR_come_86 : decode prog_9_method_48_code 86 = .ok (.getfield 80, 3) := by decide +kernel
theorem dR_come_89 : decode prog_9_method_48_code 89 = .ok (.iload_n 2, 1) := by decide +kernel
theorem dR_come_90 : decode prog_9_method_48_code 90 = .ok (.iaload, 1) := by decide +kernel
theorem dR_come_91 : decode prog_9_method_48_code 91 = .ok (.iconst (-1), 1) := by decide +kernel
theorem dR_come_92 : decode prog_9_method_48_code 92 = .ok (.if_icmp .ne 12, 3) := by decide +kernel
theorem dR_come_95 : decode prog_9_method_48_code 95 = .ok (.aload_n 0, 1) := by decide +kernel
theorem dR_come_96 : decode prog_9_method_48_code 96 = .ok (.iload_n 2, 1) := by decide +kernel
theorem dR_come_97 : decode prog_9_method_48_code 97 = .ok (.iload_n 3, 1) := by decide +kernel
theorem dR_come_98 : decode prog_9_method_48_code 98 = .ok (.invokevirtual 290, 3) := by decide +kernel
theorem dR_come_101 : decode prog_9_method_48_code 101 = .ok (.goto 8, 3) := by decide +kernel
theorem dR_come_104 : decode prog_9_method_48_code 104 = .ok (.aload_n 0, 1) := by decide +kernel
theorem dR_come_105 : decode prog_9_method_48_code 105 = .ok (.iload_n 2, 1) := by decide +kernel
theorem dR_come_106 : decode prog_9_method_48_code 106 = .ok (.invokevirtual 293, 3) := by decide +kernel
theorem dR_come_109 : decode prog_9_method_48_code 109 = .ok (.aload_n 0, 1) := by decide +kernel
theorem dR_come_110 : decode prog_9_method_48_code 110 = .ok (.getfield 80, 3) := by decide +kernel
theorem dR_come_113 : decode prog_9_method_48_code 113 = .ok (.iload_n 2, 1) := by decide +kernel
theorem dR_come_114 : decode prog_9_method_48_code 114 = .ok (.iaload, 1) := by decide +kernel
theorem dR_come_115 : decode prog_9_method_48_code 115 = .ok (.ireturn, 1) := by decide +kernel
theorem dR_nextPackage_0 : decode prog_9_method_45_code 0 = .ok (.iconst (-1), 1) := by decide +kernel
theorem dR_nextPackage_1 : decode prog_9_method_45_code 1 = .ok (.istore_n 2, 1) := by decide +kernel
theorem dR_nextPackage_2 : decode prog_9_method_45_code 2 = .ok (.iconst 0, 1) := by decide +kernel
theorem dR_nextPackage_3 : decode prog_9_method_45_code 3 = .ok (.istore_n 3, 1) := by decide +kernel
theorem dR_nextPackage_4 : decode prog_9_method_45_code 4 = .ok (.iload_n 3, 1) := by decide +kernel
theorem dR_nextPackage_5 : decode prog_9_method_45_code 5 = .ok (.aload_n 0, 1) := by decide +kernel
theorem dR_nextPackage_6 : decode prog_9_method_45_code 6 = .ok (.getfield 189, 3) := by decide +kernel
theorem dR_nextPackage_9 : decode prog_9_method_45_code 9 = .ok (.if_icmp .ge 60, 3) := by decide +kernel
theorem dR_nextPackage_12 : decode prog_9_method_45_code 12 = .ok (.aload_n 0, 1) := by decide +kernel
theorem dR_nextPackage_13 : decode prog_9_method_45_code 13 = .ok (.getfield 104, 3) := by decide +kernel
theorem dR_nextPackage_16 : decode prog_9_method_45_code 16 = .ok (.iload_n 3, 1) := by decide +kernel
theorem dR_nextPackage_17 : decode prog_9_method_45_code 17 = .ok (.iaload, 1) := by decide +kernel
theorem dR_nextPackage_18 : decode prog_9_method_45_code 18 = .ok (.iload_n 1, 1) := by decide +kernel
theorem dR_nextPackage_19 : decode prog_9_method_45_code 19 = .ok (.if_icmp .ne 44, 3) := by decide +kernel
theorem dR_nextPackage_22 : decode prog_9_method_45_code 22 = .ok (.aload_n 0, 1) := by decide +kernel
theorem dR_nextPackage_23 : decode prog_9_method_45_code 23 = .ok (.getfield 113, 3) := by decide +kernel
theorem dR_nextPackage_26 : decode prog_9_method_45_code 26 = .ok (.iload_n 3, 1) := by decide +kernel
theorem dR_nextPackage_27 : decode prog_9_method_45_code 27 = .ok (.iaload, 1) := by decide +kernel
theorem dR_nextPackage_28 : decode prog_9_method_45_code 28 = .ok (.iconst (-1), 1) := by decide +kernel
theorem dR_nextPackage_29 : decode prog_9_method_45_code 29 = .ok (.if_icmp .eq 34, 3) := by decide +kernel
theorem dR_nextPackage_32 : decode prog_9_method_45_code 32 = .ok (.aload_n 0, 1) := by decide +kernel
theorem dR_nextPackage_33 : decode prog_9_method_45_code 33 = .ok (.getfield 119, 3) := by decide +kernel
theorem dR_nextPackage_36 : decode prog_9_method_45_code 36 = .ok (.iload_n 3, 1) := by decide +kernel
theorem dR_nextPackage_37 : decode prog_9_method_45_code 37 = .ok (.baload, 1) := by decide +kernel
theorem dR_nextPackage_38 : decode prog_9_method_45_code 38 = .ok (.ifCond .ne 25, 3) := by decide +kernel
theorem dR_nextPackage_41 : decode prog_9_method_45_code 41 = .ok (.iload_n 2, 1) := by decide +kernel
theorem dR_nextPackage_42 : decode prog_9_method_45_code 42 = .ok (.iconst (-1), 1) := by decide +kernel
theorem dR_nextPackage_43 : decode prog_9_method_45_code 43 = .ok (.if_icmp .eq 18, 3) := by decide +kernel
theorem dR_nextPackage_46 : decode prog_9_method_45_code 46 = .ok (.aload_n 0, 1) := by decide +kernel
theorem dR_nextPackage_47 : decode prog_9_method_45_code 47 = .ok (.getfield 113, 3) := by decide +kernel
theorem dR_nextPackage_50 : decode prog_9_method_45_code 50 = .ok (.iload_n 3, 1) := by decide +kernel
theorem dR_nextPackage_51 : decode prog_9_method_45_code 51 = .ok (.iaload, 1) := by decide +kernel
theorem dR_nextPackage_52 : decode prog_9_method_45_code 52 = .ok (.aload_n 0, 1) := by decide +kernel
theorem dR_nextPackage_53 : decode prog_9_method_45_code 53 = .ok (.getfield 113, 3) := by decide +kernel
theorem dR_nextPackage_56 : decode prog_9_method_45_code 56 = .ok (.iload_n 2, 1) := by decide +kernel
theorem dR_nextPackage_57 : decode prog_9_method_45_code 57 = .ok (.iaload, 1) := by decide +kernel
theorem dR_nextPackage_58 : decode prog_9_method_45_code 58 = .ok (.if_icmp .ge 5, 3) := by decide +kernel
theorem dR_nextPackage_61 : decode prog_9_method_45_code 61 = .ok (.iload_n 3, 1) := by decide +kernel
theorem dR_nextPackage_62 : decode prog_9_method_45_code 62 = .ok (.istore_n 2, 1) := by decide +kernel
end
section
theorem dR_nextPackage_63 : decode prog_9_method_45_code 63 = .ok (.iinc 3 1, 3) := by decide +kernel
theorem dR_nextPackage_66 : decode prog_9_method_45_code 66 = .ok (.goto (-62), 3) := by decide +kernel
theorem dR_nextPackage_69 : decode prog_9_method_45_code 69 = .ok (.iload_n 2, 1) := by decide +kernel
theorem dR_nextPackage_70 : decode prog_9_method_45_code 70 = .ok (.ireturn, 1) := by decide +kernel
theorem dR_join_0 : decode prog_9_method_46_code 0 = .ok (.aload_n 0, 1) := by decide +kernel
theorem dR_join_1 : decode prog_9_method_46_code 1 = .ok (.getfield 113, 3) := by decide +kernel
theorem dR_join_4 : decode prog_9_method_46_code 4 = .ok (.iload_n 2, 1) := by decide +kernel
theorem dR_join_5 : decode prog_9_method_46_code 5 = .ok (.iaload, 1) := by decide +kernel
theorem dR_join_6 : decode prog_9_method_46_code 6 = .ok (.istore_n 3, 1) := by decide +kernel
theorem dR_join_7 : decode prog_9_method_46_code 7 = .ok (.aload_n 0, 1) := by decide +kernel
theorem dR_join_8 : decode prog_9_method_46_code 8 = .ok (.iload_n 1, 1) := by decide +kernel
theorem dR_join_9 : decode prog_9_method_46_code 9 = .ok (.invokevirtual 147, 3) := by decide +kernel
theorem dR_join_12 : decode prog_9_method_46_code 12 = .ok (.aload_n 0, 1) := by decide +kernel
theorem dR_join_13 : decode prog_9_method_46_code 13 = .ok (.getfield 119, 3) := by decide +kernel
theorem dR_join_16 : decode prog_9_method_46_code 16 = .ok (.iload_n 2, 1) := by decide +kernel
theorem dR_join_17 : decode prog_9_method_46_code 17 = .ok (.iconst 1, 1) := by decide +kernel
theorem dR_join_18 : decode prog_9_method_46_code 18 = .ok (.bastore, 1) := by decide +kernel
theorem dR_join_19 : decode prog_9_method_46_code 19 = .ok (.aload_n 0, 1) := by decide +kernel
theorem dR_join_20 : decode prog_9_method_46_code 20 = .ok (.getfield 80, 3) := by decide +kernel
theorem dR_join_23 : decode prog_9_method_46_code 23 = .ok (.iload_n 1, 1) := by decide +kernel
theorem dR_join_24 : decode prog_9_method_46_code 24 = .ok (.iload_n 3, 1) := by decide +kernel
theorem dR_join_25 : decode prog_9_method_46_code 25 = .ok (.iastore, 1) := by decide +kernel
theorem dR_join_26 : decode prog_9_method_46_code 26 = .ok (.aload_n 0, 1) := by decide +kernel
theorem dR_join_27 : decode prog_9_method_46_code 27 = .ok (.getfield 83, 3) := by decide +kernel
theorem dR_join_30 : decode prog_9_method_46_code 30 = .ok (.iload_n 1, 1) := by decide +kernel
theorem dR_join_31 : decode prog_9_method_46_code 31 = .ok (.aload_n 0, 1) := by decide +kernel
theorem dR_join_32 : decode prog_9_method_46_code 32 = .ok (.getfield 116, 3) := by decide +kernel
theorem dR_join_35 : decode prog_9_method_46_code 35 = .ok (.iload_n 2, 1) := by decide +kernel
theorem dR_join_36 : decode prog_9_method_46_code 36 = .ok (.iaload, 1) := by decide +kernel
theorem dR_join_37 : decode prog_9_method_46_code 37 = .ok (.iastore, 1) := by decide +kernel
theorem dR_join_38 : decode prog_9_method_46_code 38 = .ok (.aload_n 0, 1) := by decide +kernel
theorem dR_join_39 : decode prog_9_method_46_code 39 = .ok (.getfield 86, 3) := by decide +kernel
theorem dR_join_42 : decode prog_9_method_46_code 42 = .ok (.iload_n 1, 1) := by decide +kernel
theorem dR_join_43 : decode prog_9_method_46_code 43 = .ok (.aload_n 0, 1) := by decide +kernel
theorem dR_join_44 : decode prog_9_method_46_code 44 = .ok (.getfield 110, 3) := by decide +kernel
theorem dR_join_47 : decode prog_9_method_46_code 47 = .ok (.iload_n 2, 1) := by decide +kernel
theorem dR_join_48 : decode prog_9_method_46_code 48 = .ok (.iaload, 1) := by decide +kernel
theorem dR_join_49 : decode prog_9_method_46_code 49 = .ok (.iastore, 1) := by decide +kernel
theorem dR_join_50 : decode prog_9_method_46_code 50 = .ok (.aload_n 0, 1) := by decide +kernel
theorem dR_join_51 : decode prog_9_method_46_code 51 = .ok (.getfield 95, 3) := by decide +kernel
theorem dR_join_54 : decode prog_9_method_46_code 54 = .ok (.iload_n 1, 1) := by decide +kernel
theorem dR_join_55 : decode prog_9_method_46_code 55 = .ok (.iconst 1, 1) := by decide +kernel
theorem dR_join_56 : decode prog_9_method_46_code 56 = .ok (.bastore, 1) := by decide +kernel
theorem dR_join_57 : decode prog_9_method_46_code 57 = .ok (.aload_n 0, 1) := by decide +kernel
theorem dR_join_58 : decode prog_9_method_46_code 58 = .ok (.iload_n 3, 1) := by decide +kernel
theorem dR_join_59 : decode prog_9_method_46_code 59 = .ok (.aload_n 0, 1) := by decide +kernel
theorem dR_join_60 : decode prog_9_method_46_code 60 = .ok (.getfield 83, 3) := by decide +kernel
theorem dR_join_63 : decode prog_9_method_46_code 63 = .ok (.iload_n 1, 1) := by decide +kernel
theorem dR_join_64 : decode prog_9_method_46_code 64 = .ok (.iaload, 1) := by decide +kernel
theorem dR_join_65 : decode prog_9_method_46_code 65 = .ok (.invokevirtual 227, 3) := by decide +kernel
theorem dR_join_68 : decode prog_9_method_46_code 68 = .ok (.istore 4, 2) := by decide +kernel
theorem dR_join_70 : decode prog_9_method_46_code 70 = .ok (.aload_n 0, 1) := by decide +kernel
theorem dR_join_71 : decode prog_9_method_46_code 71 = .ok (.getfield 62, 3) := by decide +kernel
theorem dR_join_74 : decode prog_9_method_46_code 74 = .ok (.iload_n 3, 1) := by decide +kernel
theorem dR_join_75 : decode prog_9_method_46_code 75 = .ok (.baload, 1) := by decide +kernel
theorem dR_join_76 : decode prog_9_method_46_code 76 = .ok (.ifCond .eq 17, 3) := by decide +kernel
theorem dR_join_79 : decode prog_9_method_46_code 79 = .ok (.iload 4, 2) := by decide +kernel
theorem dR_join_81 : decode prog_9_method_46_code 81 = .ok (.iconst (-1), 1) := by decide +kernel
theorem dR_join_82 : decode prog_9_method_46_code 82 = .ok (.if_icmp .eq 11, 3) := by decide +kernel
theorem dR_join_85 : decode prog_9_method_46_code 85 = .ok (.aload_n 0, 1) := by decide +kernel
theorem dR_join_86 : decode prog_9_method_46_code 86 = .ok (.iload_n 1, 1) := by decide +kernel
theorem dR_join_87 : decode prog_9_method_46_code 87 = .ok (.iload_n 3, 1) := by decide +kernel
theorem dR_join_88 : decode prog_9_method_46_code 88 = .ok (.iload 4, 2) := by decide +kernel
theorem dR_join_90 : decode prog_9_method_46_code 90 = .ok (.invokevirtual 233, 3) := by decide +kernel
theorem dR_join_93 : decode prog_9_method_46_code 93 = .ok (.return_, 1) := by decide +kernel
theorem dR_follow_0 : decode prog_9_method_47_code 0 = .ok (.aload_n 0, 1) := by decide +kernel
theorem dR_follow_1 : decode prog_9_method_47_code 1 = .ok (.getfield 80, 3) := by decide +kernel
theorem dR_follow_4 : decode prog_9_method_47_code 4 = .ok (.iload_n 1, 1) := by decide +kernel
theorem dR_follow_5 : decode prog_9_method_47_code 5 = .ok (.iaload, 1) := by decide +kernel
theorem dR_follow_6 : decode prog_9_method_47_code 6 = .ok (.iconst 1, 1) := by decide +kernel
theorem dR_follow_7 : decode prog_9_method_47_code 7 = .ok (.iadd, 1) := by decide +kernel
theorem dR_follow_8 : decode prog_9_method_47_code 8 = .ok (.istore_n 2, 1) := by decide +kernel
theorem dR_follow_9 : decode prog_9_method_47_code 9 = .ok (.aload_n 0, 1) := by decide +kernel
theorem dR_follow_10 : decode prog_9_method_47_code 10 = .ok (.getfield 50, 3) := by decide +kernel
theorem dR_follow_13 : decode prog_9_method_47_code 13 = .ok (.iload_n 2, 1) := by decide +kernel
theorem dR_follow_14 : decode prog_9_method_47_code 14 = .ok (.iaload, 1) := by decide +kernel
theorem dR_follow_15 : decode prog_9_method_47_code 15 = .ok (.aload_n 0, 1) := by decide +kernel
theorem dR_follow_16 : decode prog_9_method_47_code 16 = .ok (.getfield 83, 3) := by decide +kernel
theorem dR_follow_19 : decode prog_9_method_47_code 19 = .ok (.iload_n 1, 1) := by decide +kernel
theorem dR_follow_20 : decode prog_9_method_47_code 20 = .ok (.iaload, 1) := by decide +kernel
theorem dR_follow_21 : decode prog_9_method_47_code 21 = .ok (.ishr, 1) := by decide +kernel
theorem dR_follow_22 : decode prog_9_method_47_code 22 = .ok (.iconst 1, 1) := by decide +kernel
theorem dR_follow_23 : decode prog_9_method_47_code 23 = .ok (.iand, 1) := by decide +kernel
theorem dR_follow_24 : decode prog_9_method_47_code 24 = .ok (.iconst 1, 1) := by decide +kernel
theorem dR_follow_25 : decode prog_9_method_47_code 25 = .ok (.if_icmp .ne 9, 3) := by decide +kernel
theorem dR_follow_28 : decode prog_9_method_47_code 28 = .ok (.aload_n 0, 1) := by decide +kernel
theorem dR_follow_29 : decode prog_9_method_47_code 29 = .ok (.iload_n 1, 1) := by decide +kernel
theorem dR_follow_30 : decode prog_9_method_47_code 30 = .ok (.invokevirtual 147, 3) := by decide +kernel
theorem dR_follow_33 : decode prog_9_method_47_code 33 = .ok (.return_, 1) := by decide +kernel
theorem dR_follow_34 : decode prog_9_method_47_code 34 = .ok (.aload_n 0, 1) := by decide +kernel
theorem dR_follow_35 : decode prog_9_method_47_code 35 = .ok (.iload_n 1, 1) := by decide +kernel
theorem dR_follow_36 : decode prog_9_method_47_code 36 = .ok (.invokevirtual 281, 3) := by decide +kernel
theorem dR_follow_39 : decode prog_9_method_47_code 39 = .ok (.aload_n 0, 1) := by decide +kernel
theorem dR_follow_40 : decode prog_9_method_47_code 40 = .ok (.getfield 53, 3) := by decide +kernel
theorem dR_follow_43 : decode prog_9_method_47_code 43 = .ok (.iload_n 2, 1) := by decide +kernel
theorem dR_follow_44 : decode prog_9_method_47_code 44 = .ok (.iaload, 1) := by decide +kernel
theorem dR_follow_45 : decode prog_9_method_47_code 45 = .ok (.aload_n 0, 1) := by decide +kernel
theorem dR_follow_46 : decode prog_9_method_47_code 46 = .ok (.getfield 83, 3) := by decide +kernel
theorem dR_follow_49 : decode prog_9_method_47_code 49 = .ok (.iload_n 1, 1) := by decide +kernel
theorem dR_follow_50 : decode prog_9_method_47_code 50 = .ok (.iaload, 1) := by decide +kernel
theorem dR_follow_51 : decode prog_9_method_47_code 51 = .ok (.ishr, 1) := by decide +kernel
theorem dR_follow_52 : decode prog_9_method_47_code 52 = .ok (.iconst 1, 1) := by decide +kernel
theorem dR_follow_53 : decode prog_9_method_47_code 53 = .ok (.iand, 1) := by decide +kernel
theorem dR_follow_54 : decode prog_9_method_47_code 54 = .ok (.iconst 1, 1) := by decide +kernel
theorem dR_follow_55 : decode prog_9_method_47_code 55 = .ok (.if_icmp .ne 25, 3) := by decide +kernel
theorem dR_follow_58 : decode prog_9_method_47_code 58 = .ok (.aload_n 0, 1) := by decide +kernel
theorem dR_follow_59 : decode prog_9_method_47_code 59 = .ok (.aload_n 0, 1) := by decide +kernel
theorem dR_follow_60 : decode prog_9_method_47_code 60 = .ok (.getfield 65, 3) := by decide +kernel
theorem dR_follow_63 : decode prog_9_method_47_code 63 = .ok (.bipush 31, 2) := by decide +kernel
theorem dR_follow_65 : decode prog_9_method_47_code 65 = .ok (.iload_n 2, 1) := by decide +kernel
theorem dR_follow_66 : decode prog_9_method_47_code 66 = .ok (.imul, 1) := by decide +kernel
theorem dR_follow_67 : decode prog_9_method_47_code 67 = .ok (.iconst 2, 1) := by decide +kernel
theorem dR_follow_68 : decode prog_9_method_47_code 68 = .ok (.aload_n 0, 1) := by decide +kernel
theorem dR_follow_69 : decode prog_9_method_47_code 69 = .ok (.getfield 83, 3) := by decide +kernel
theorem dR_follow_72 : decode prog_9_method_47_code 72 = .ok (.iload_n 1, 1) := by decide +kernel
theorem dR_follow_73 : decode prog_9_method_47_code 73 = .ok (.iaload, 1) := by decide +kernel
theorem dR_follow_74 : decode prog_9_method_47_code 74 = .ok (.imul, 1) := by decide +kernel
theorem dR_follow_75 : decode prog_9_method_47_code 75 = .ok (.iadd, 1) := by decide +kernel
theorem dR_follow_76 : decode prog_9_method_47_code 76 = .ok (.iaload, 1) := by decide +kernel
theorem dR_follow_77 : decode prog_9_method_47_code 77 = .ok (.invokevirtual 186, 3) := by decide +kernel
theorem dR_follow_80 : decode prog_9_method_47_code 80 = .ok (.aload_n 0, 1) := by decide +kernel
theorem dR_follow_81 : decode prog_9_method_47_code 81 = .ok (.getfield 62, 3) := by decide +kernel
theorem dR_follow_84 : decode prog_9_method_47_code 84 = .ok (.iload_n 2, 1) := by decide +kernel
theorem dR_follow_85 : decode prog_9_method_47_code 85 = .ok (.baload, 1) := by decide +kernel
theorem dR_follow_86 : decode prog_9_method_47_code 86 = .ok (.ifCond .eq 17, 3) := by decide +kernel
theorem dR_follow_89 : decode prog_9_method_47_code 89 = .ok (.aload_n 0, 1) := by decide +kernel
theorem dR_follow_90 : decode prog_9_method_47_code 90 = .ok (.iload_n 2, 1) := by decide +kernel
theorem dR_follow_91 : decode prog_9_method_47_code 91 = .ok (.aload_n 0, 1) := by decide +kernel
theorem dR_follow_92 : decode prog_9_method_47_code 92 = .ok (.getfield 83, 3) := by decide +kernel
theorem dR_follow_95 : decode prog_9_method_47_code 95 = .ok (.iload_n 1, 1) := by decide +kernel
theorem dR_follow_96 : decode prog_9_method_47_code 96 = .ok (.iaload, 1) := by decide +kernel
theorem dR_follow_97 : decode prog_9_method_47_code 97 = .ok (.invokevirtual 227, 3) := by decide +kernel
theorem dR_follow_100 : decode prog_9_method_47_code 100 = .ok (.goto 4, 3) := by decide +kernel
theorem dR_follow_103 : decode prog_9_method_47_code 103 = .ok (.iconst (-1), 1) := by decide +kernel
theorem dR_follow_104 : decode prog_9_method_47_code 104 = .ok (.istore_n 3, 1) := by decide +kernel
theorem dR_follow_105 : decode prog_9_method_47_code 105 = .ok (.iconst 0, 1) := by decide +kernel
theorem dR_follow_106 : decode prog_9_method_47_code 106 = .ok (.istore 4, 2) := by decide +kernel
theorem dR_follow_108 : decode prog_9_method_47_code 108 = .ok (.iconst 0, 1) := by decide +kernel
theorem dR_follow_109 : decode prog_9_method_47_code 109 = .ok (.istore 5, 2) := by decide +kernel
theorem dR_follow_111 : decode prog_9_method_47_code 111 = .ok (.iload 5, 2) := by decide +kernel
theorem dR_follow_113 : decode prog_9_method_47_code 113 = .ok (.aload_n 0, 1) := by decide +kernel
theorem dR_follow_114 : decode prog_9_method_47_code 114 = .ok (.getfield 161, 3) := by decide +kernel
theorem dR_follow_117 : decode prog_9_method_47_code 117 = .ok (.if_icmp .ge 62, 3) := by decide +kernel
theorem dR_follow_120 : decode prog_9_method_47_code 120 = .ok (.iload_n 3, 1) := by decide +kernel
theorem dR_follow_121 : decode prog_9_method_47_code 121 = .ok (.iconst (-1), 1) := by decide +kernel
theorem dR_follow_122 : decode prog_9_method_47_code 122 = .ok (.if_icmp .eq 57, 3) := by decide +kernel
theorem dR_follow_125 : decode prog_9_method_47_code 125 = .ok (.iload 4, 2) := by decide +kernel
theorem dR_follow_127 : decode prog_9_method_47_code 127 = .ok (.ifCond .ne 39, 3) := by decide +kernel
theorem dR_follow_130 : decode prog_9_method_47_code 130 = .ok (.aload_n 0, 1) := by decide +kernel
theorem dR_follow_131 : decode prog_9_method_47_code 131 = .ok (.getfield 32, 3) := by decide +kernel
theorem dR_follow_134 : decode prog_9_method_47_code 134 = .ok (.iload 5, 2) := by decide +kernel
theorem dR_follow_136 : decode prog_9_method_47_code 136 = .ok (.iaload, 1) := by decide +kernel
theorem dR_follow_137 : decode prog_9_method_47_code 137 = .ok (.iload_n 2, 1) := by decide +kernel
theorem dR_follow_138 : decode prog_9_method_47_code 138 = .ok (.if_icmp .ne 32, 3) := by decide +kernel
theorem dR_follow_141 : decode prog_9_method_47_code 141 = .ok (.aload_n 0, 1) := by decide +kernel
theorem dR_follow_142 : decode prog_9_method_47_code 142 = .ok (.getfield 35, 3) := by decide +kernel
theorem dR_follow_145 : decode prog_9_method_47_code 145 = .ok (.iload 5, 2) := by decide +kernel
theorem dR_follow_147 : decode prog_9_method_47_code 147 = .ok (.iaload, 1) := by decide +kernel
theorem dR_follow_148 : decode prog_9_method_47_code 148 = .ok (.iload_n 3, 1) := by decide +kernel
theorem dR_follow_149 : decode prog_9_method_47_code 149 = .ok (.if_icmp .ne 21, 3) := by decide +kernel
theorem dR_follow_152 : decode prog_9_method_47_code 152 = .ok (.aload_n 0, 1) := by decide +kernel
theorem dR_follow_153 : decode prog_9_method_47_code 153 = .ok (.aload_n 0, 1) := by decide +kernel
theorem dR_follow_154 : decode prog_9_method_47_code 154 = .ok (.getfield 26, 3) := by decide +kernel
theorem dR_follow_157 : decode prog_9_method_47_code 157 = .ok (.iload 5, 2) := by decide +kernel
theorem dR_follow_159 : decode prog_9_method_47_code 159 = .ok (.iaload, 1) := by decide +kernel
theorem dR_follow_160 : decode prog_9_method_47_code 160 = .ok (.invokevirtual 284, 3) := by decide +kernel
theorem dR_follow_163 : decode prog_9_method_47_code 163 = .ok (.ifCond .eq 7, 3) := by decide +kernel
theorem dR_follow_166 : decode prog_9_method_47_code 166 = .ok (.iconst 1, 1) := by decide +kernel
theorem dR_follow_167 : decode prog_9_method_47_code 167 = .ok (.goto 4, 3) := by decide +kernel
theorem dR_follow_170 : decode prog_9_method_47_code 170 = .ok (.iconst 0, 1) := by decide +kernel
theorem dR_follow_171 : decode prog_9_method_47_code 171 = .ok (.istore 4, 2) := by decide +kernel
theorem dR_follow_173 : decode prog_9_method_47_code 173 = .ok (.iinc 5 1, 3) := by decide +kernel
theorem dR_follow_176 : decode prog_9_method_47_code 176 = .ok (.goto (-65), 3) := by decide +kernel
theorem dR_follow_179 : decode prog_9_method_47_code 179 = .ok (.aload_n 0, 1) := by decide +kernel
theorem dR_follow_180 : decode prog_9_method_47_code 180 = .ok (.iload_n 1, 1) := by decide +kernel
theorem dR_follow_181 : decode prog_9_method_47_code 181 = .ok (.iload_n 2, 1) := by decide +kernel
theorem dR_follow_182 : decode prog_9_method_47_code 182 = .ok (.iconst 0, 1) := by decide +kernel
theorem dR_follow_183 : decode prog_9_method_47_code 183 = .ok (.invokevirtual 260, 3) := by decide +kernel
theorem dR_follow_186 : decode prog_9_method_47_code 186 = .ok (.iload 4, 2) := by decide +kernel
theorem dR_follow_188 : decode prog_9_method_47_code 188 = .ok (.ifCond .eq 10, 3) := by decide +kernel
theorem dR_follow_191 : decode prog_9_method_47_code 191 = .ok (.aload_n 0, 1) := by decide +kernel
theorem dR_follow_192 : decode prog_9_method_47_code 192 = .ok (.iload_n 1, 1) := by decide +kernel
theorem dR_follow_193 : decode prog_9_method_47_code 193 = .ok (.iload_n 2, 1) := by decide +kernel
theorem dR_follow_194 : decode prog_9_method_47_code 194 = .ok (.iload_n 3, 1) := by decide +kernel
theorem dR_follow_195 : decode prog_9_method_47_code 195 = .ok (.invokevirtual 233, 3) := by decide +kernel
theorem dR_follow_198 : decode prog_9_method_47_code 198 = .ok (.iload_n 3, 1) := by decide +kernel
theorem dR_follow_199 : decode prog_9_method_47_code 199 = .ok (.iconst (-1), 1) := by decide +kernel
theorem dR_follow_200 : decode prog_9_method_47_code 200 = .ok (.if_icmp .eq 8, 3) := by decide +kernel
theorem dR_follow_203 : decode prog_9_method_47_code 203 = .ok (.iload 4, 2) := by decide +kernel
theorem dR_follow_205 : decode prog_9_method_47_code 205 = .ok (.ifCond .eq 4, 3) := by decide +kernel
theorem dR_follow_208 : decode prog_9_method_47_code 208 = .ok (.return_, 1) := by decide +kernel
theorem dR_follow_209 : decode prog_9_method_47_code 209 = .ok (.aload_n 0, 1) := by decide +kernel
theorem dR_follow_210 : decode prog_9_method_47_code 210 = .ok (.getfield 89, 3) := by decide +kernel
theorem dR_follow_213 : decode prog_9_method_47_code 213 = .ok (.iload_n 1, 1) := by decide +kernel
theorem dR_follow_214 : decode prog_9_method_47_code 214 = .ok (.dup2, 1) := by decide +kernel
theorem dR_follow_215 : decode prog_9_method_47_code 215 = .ok (.iaload, 1) := by decide +kernel
theorem dR_follow_216 : decode prog_9_method_47_code 216 = .ok (.iconst 1, 1) := by decide +kernel
theorem dR_follow_217 : decode prog_9_method_47_code 217 = .ok (.iadd, 1) := by decide +kernel
theorem dR_follow_218 : decode prog_9_method_47_code 218 = .ok (.iastore, 1) := by decide +kernel
theorem dR_follow_219 : decode prog_9_method_47_code 219 = .ok (.aload_n 0, 1) := by decide +kernel
theorem dR_follow_220 : decode prog_9_method_47_code 220 = .ok (.getfield 95, 3) := by decide +kernel
theorem dR_follow_223 : decode prog_9_method_47_code 223 = .ok (.iload_n 1, 1) := by decide +kernel
theorem dR_follow_224 : decode prog_9_method_47_code 224 = .ok (.iconst 0, 1) := by decide +kernel
theorem dR_follow_225 : decode prog_9_method_47_code 225 = .ok (.bastore, 1) := by decide +kernel
theorem dR_follow_226 : decode prog_9_method_47_code 226 = .ok (.return_, 1) := by decide +kernel
theorem dR_gather_0 : decode prog_9_method_20_code 0 = .ok (.aload_n 0, 1) := by decide +kernel
theorem dR_gather_1 : decode prog_9_method_20_code 1 = .ok (.iconst 0, 1) := by decide +kernel
theorem dR_gather_2 : decode prog_9_method_20_code 2 = .ok (.putfield 183, 3) := by decide +kernel
theorem dR_gather_5 : decode prog_9_method_20_code 5 = .ok (.aload_n 0, 1) := by decide +kernel
theorem dR_gather_6 : decode prog_9_method_20_code 6 = .ok (.getfield 95, 3) := by decide +kernel
theorem dR_gather_9 : decode prog_9_method_20_code 9 = .ok (.iload_n 1, 1) := by decide +kernel
theorem dR_gather_10 : decode prog_9_method_20_code 10 = .ok (.baload, 1) := by decide +kernel
theorem dR_gather_11 : decode prog_9_method_20_code 11 = .ok (.ifCond .eq 18, 3) := by decide +kernel
theorem dR_gather_14 : decode prog_9_method_20_code 14 = .ok (.aload_n 0, 1) := by decide +kernel
theorem dR_gather_15 : decode prog_9_method_20_code 15 = .ok (.aload_n 0, 1) := by decide +kernel
theorem dR_gather_16 : decode prog_9_method_20_code 16 = .ok (.getfield 41, 3) := by decide +kernel
theorem dR_gather_19 : decode prog_9_method_20_code 19 = .ok (.aload_n 0, 1) := by decide +kernel
theorem dR_gather_20 : decode prog_9_method_20_code 20 = .ok (.getfield 80, 3) := by decide +kernel
theorem dR_gather_23 : decode prog_9_method_20_code 23 = .ok (.iload_n 1, 1) := by decide +kernel
theorem dR_gather_24 : decode prog_9_method_20_code 24 = .ok (.iaload, 1) := by decide +kernel
theorem dR_gather_25 : decode prog_9_method_20_code 25 = .ok (.iaload, 1) := by decide +kernel
theorem dR_gather_26 : decode prog_9_method_20_code 26 = .ok (.invokevirtual 186, 3) := by decide +kernel
theorem dR_gather_29 : decode prog_9_method_20_code 29 = .ok (.aload_n 0, 1) := by decide +kernel
theorem dR_gather_30 : decode prog_9_method_20_code 30 = .ok (.getfield 86, 3) := by decide +kernel
theorem dR_gather_33 : decode prog_9_method_20_code 33 = .ok (.iload_n 1, 1) := by decide +kernel
theorem dR_gather_34 : decode prog_9_method_20_code 34 = .ok (.iaload, 1) := by decide +kernel
theorem dR_gather_35 : decode prog_9_method_20_code 35 = .ok (.iconst (-1), 1) := by decide +kernel
theorem dR_gather_36 : decode prog_9_method_20_code 36 = .ok (.if_icmp .eq 13, 3) := by decide +kernel
theorem dR_gather_39 : decode prog_9_method_20_code 39 = .ok (.aload_n 0, 1) := by decide +kernel
theorem dR_gather_40 : decode prog_9_method_20_code 40 = .ok (.aload_n 0, 1) := by decide +kernel
theorem dR_gather_41 : decode prog_9_method_20_code 41 = .ok (.getfield 86, 3) := by decide +kernel
theorem dR_gather_44 : decode prog_9_method_20_code 44 = .ok (.iload_n 1, 1) := by decide +kernel
theorem dR_gather_45 : decode prog_9_method_20_code 45 = .ok (.iaload, 1) := by decide +kernel
theorem dR_gather_46 : decode prog_9_method_20_code 46 = .ok (.invokevirtual 186, 3) := by decide +kernel
theorem dR_gather_49 : decode prog_9_method_20_code 49 = .ok (.iconst 0, 1) := by decide +kernel
theorem dR_gather_50 : decode prog_9_method_20_code 50 = .ok (.istore_n 2, 1) := by decide +kernel
theorem dR_gather_51 : decode prog_9_method_20_code 51 = .ok (.iload_n 2, 1) := by decide +kernel
theorem dR_gather_52 : decode prog_9_method_20_code 52 = .ok (.bipush 31, 2) := by decide +kernel
theorem dR_gather_54 : decode prog_9_method_20_code 54 = .ok (.if_icmp .ge 39, 3) := by decide +kernel
theorem dR_gather_57 : decode prog_9_method_20_code 57 = .ok (.aload_n 0, 1) := by decide +kernel
theorem dR_gather_58 : decode prog_9_method_20_code 58 = .ok (.getfield 98, 3) := by decide +kernel
theorem dR_gather_61 : decode prog_9_method_20_code 61 = .ok (.bipush 31, 2) := by decide +kernel
theorem dR_gather_63 : decode prog_9_method_20_code 63 = .ok (.iload_n 1, 1) := by decide +kernel
theorem dR_gather_64 : decode prog_9_method_20_code 64 = .ok (.imul, 1) := by decide +kernel
theorem dR_gather_65 : decode prog_9_method_20_code 65 = .ok (.iload_n 2, 1) := by decide +kernel
theorem dR_gather_66 : decode prog_9_method_20_code 66 = .ok (.iadd, 1) := by decide +kernel
theorem dR_gather_67 : decode prog_9_method_20_code 67 = .ok (.iaload, 1) := by decide +kernel
theorem dR_gather_68 : decode prog_9_method_20_code 68 = .ok (.iconst (-1), 1) := by decide +kernel
theorem dR_gather_69 : decode prog_9_method_20_code 69 = .ok (.if_icmp .eq 18, 3) := by decide +kernel
theorem dR_gather_72 : decode prog_9_method_20_code 72 = .ok (.aload_n 0, 1) := by decide +kernel
theorem dR_gather_73 : decode prog_9_method_20_code 73 = .ok (.aload_n 0, 1) := by decide +kernel
theorem dR_gather_74 : decode prog_9_method_20_code 74 = .ok (.getfield 98, 3) := by decide +kernel
theorem dR_gather_77 : decode prog_9_method_20_code 77 = .ok (.bipush 31, 2) := by decide +kernel
theorem dR_gather_79 : decode prog_9_method_20_code 79 = .ok (.iload_n 1, 1) := by decide +kernel
theorem dR_gather_80 : decode prog_9_method_20_code 80 = .ok (.imul, 1) := by decide +kernel
theorem dR_gather_81 : decode prog_9_method_20_code 81 = .ok (.iload_n 2, 1) := by decide +kernel
theorem dR_gather_82 : decode prog_9_method_20_code 82 = .ok (.iadd, 1) := by decide +kernel
theorem dR_gather_83 : decode prog_9_method_20_code 83 = .ok (.iaload, 1) := by decide +kernel
theorem dR_gather_84 : decode prog_9_method_20_code 84 = .ok (.invokevirtual 186, 3) := by decide +kernel
theorem dR_gather_87 : decode prog_9_method_20_code 87 = .ok (.iinc 2 1, 3) := by decide +kernel
theorem dR_gather_90 : decode prog_9_method_20_code 90 = .ok (.goto (-39), 3) := by decide +kernel
theorem dR_gather_93 : decode prog_9_method_20_code 93 = .ok (.iconst 0, 1) := by decide +kernel
theorem dR_gather_94 : decode prog_9_method_20_code 94 = .ok (.istore_n 2, 1) := by decide +kernel
theorem dR_gather_95 : decode prog_9_method_20_code 95 = .ok (.iload_n 2, 1) := by decide +kernel
theorem dR_gather_96 : decode prog_9_method_20_code 96 = .ok (.aload_n 0, 1) := by decide +kernel
theorem dR_gather_97 : decode prog_9_method_20_code 97 = .ok (.getfield 92, 3) := by decide +kernel
theorem dR_gather_100 : decode prog_9_method_20_code 100 = .ok (.iload_n 1, 1) := by decide +kernel
theorem dR_gather_101 : decode prog_9_method_20_code 101 = .ok (.iaload, 1) := by decide +kernel
theorem dR_gather_102 : decode prog_9_method_20_code 102 = .ok (.if_icmp .ge 24, 3) := by decide +kernel
theorem dR_gather_105 : decode prog_9_method_20_code 105 = .ok (.aload_n 0, 1) := by decide +kernel
theorem dR_gather_106 : decode prog_9_method_20_code 106 = .ok (.aload_n 0, 1) := by decide +kernel
theorem dR_gather_107 : decode prog_9_method_20_code 107 = .ok (.getfield 101, 3) := by decide +kernel
theorem dR_gather_110 : decode prog_9_method_20_code 110 = .ok (.bipush 20, 2) := by decide +kernel
theorem dR_gather_112 : decode prog_9_method_20_code 112 = .ok (.iload_n 1, 1) := by decide +kernel
theorem dR_gather_113 : decode prog_9_method_20_code 113 = .ok (.imul, 1) := by decide +kernel
theorem dR_gather_114 : decode prog_9_method_20_code 114 = .ok (.iload_n 2, 1) := by decide +kernel
theorem dR_gather_115 : decode prog_9_method_20_code 115 = .ok (.iadd, 1) := by decide +kernel
theorem dR_gather_116 : decode prog_9_method_20_code 116 = .ok (.iaload, 1) := by decide +kernel
theorem dR_gather_117 : decode prog_9_method_20_code 117 = .ok (.invokevirtual 186, 3) := by decide +kernel
theorem dR_gather_120 : decode prog_9_method_20_code 120 = .ok (.iinc 2 1, 3) := by decide +kernel
theorem dR_gather_123 : decode prog_9_method_20_code 123 = .ok (.goto (-28), 3) := by decide +kernel
theorem dR_gather_126 : decode prog_9_method_20_code 126 = .ok (.iconst 0, 1) := by decide +kernel
theorem dR_gather_127 : decode prog_9_method_20_code 127 = .ok (.istore_n 2, 1) := by decide +kernel
theorem dR_gather_128 : decode prog_9_method_20_code 128 = .ok (.iload_n 2, 1) := by decide +kernel
theorem dR_gather_129 : decode prog_9_method_20_code 129 = .ok (.aload_n 0, 1) := by decide +kernel
theorem dR_gather_130 : decode prog_9_method_20_code 130 = .ok (.getfield 189, 3) := by decide +kernel
theorem dR_gather_133 : decode prog_9_method_20_code 133 = .ok (.if_icmp .ge 51, 3) := by decide +kernel
theorem dR_gather_136 : decode prog_9_method_20_code 136 = .ok (.aload_n 0, 1) := by decide +kernel
theorem dR_gather_137 : decode prog_9_method_20_code 137 = .ok (.getfield 104, 3) := by decide +kernel
theorem dR_gather_140 : decode prog_9_method_20_code 140 = .ok (.iload_n 2, 1) := by decide +kernel
theorem dR_gather_141 : decode prog_9_method_20_code 141 = .ok (.iaload, 1) := by decide +kernel
theorem dR_gather_142 : decode prog_9_method_20_code 142 = .ok (.iload_n 1, 1) := by decide +kernel
theorem dR_gather_143 : decode prog_9_method_20_code 143 = .ok (.if_icmp .ne 35, 3) := by decide +kernel
theorem dR_gather_146 : decode prog_9_method_20_code 146 = .ok (.aload_n 0, 1) := by decide +kernel
theorem dR_gather_147 : decode prog_9_method_20_code 147 = .ok (.getfield 119, 3) := by decide +kernel
theorem dR_gather_150 : decode prog_9_method_20_code 150 = .ok (.iload_n 2, 1) := by decide +kernel
theorem dR_gather_151 : decode prog_9_method_20_code 151 = .ok (.baload, 1) := by decide +kernel
theorem dR_gather_152 : decode prog_9_method_20_code 152 = .ok (.ifCond .eq 6, 3) := by decide +kernel
theorem dR_gather_155 : decode prog_9_method_20_code 155 = .ok (.goto 23, 3) := by decide +kernel
theorem dR_gather_158 : decode prog_9_method_20_code 158 = .ok (.aload_n 0, 1) := by decide +kernel
theorem dR_gather_159 : decode prog_9_method_20_code 159 = .ok (.aload_n 0, 1) := by decide +kernel
theorem dR_gather_160 : decode prog_9_method_20_code 160 = .ok (.getfield 107, 3) := by decide +kernel
theorem dR_gather_163 : decode prog_9_method_20_code 163 = .ok (.iload_n 2, 1) := by decide +kernel
theorem dR_gather_164 : decode prog_9_method_20_code 164 = .ok (.iaload, 1) := by decide +kernel
theorem dR_gather_165 : decode prog_9_method_20_code 165 = .ok (.invokevirtual 186, 3) := by decide +kernel
theorem dR_gather_168 : decode prog_9_method_20_code 168 = .ok (.aload_n 0, 1) := by decide +kernel
theorem dR_gather_169 : decode prog_9_method_20_code 169 = .ok (.aload_n 0, 1) := by decide +kernel
theorem dR_gather_170 : decode prog_9_method_20_code 170 = .ok (.getfield 110, 3) := by decide +kernel
theorem dR_gather_173 : decode prog_9_method_20_code 173 = .ok (.iload_n 2, 1) := by decide +kernel
theorem dR_gather_174 : decode prog_9_method_20_code 174 = .ok (.iaload, 1) := by decide +kernel
theorem dR_gather_175 : decode prog_9_method_20_code 175 = .ok (.invokevirtual 186, 3) := by decide +kernel
theorem dR_gather_178 : decode prog_9_method_20_code 178 = .ok (.iinc 2 1, 3) := by decide +kernel
theorem dR_gather_181 : decode prog_9_method_20_code 181 = .ok (.goto (-53), 3) := by decide +kernel
theorem dR_gather_184 : decode prog_9_method_20_code 184 = .ok (.return_, 1) := by decide +kernel
theorem dR_hold_0 : decode prog_9_method_19_code 0 = .ok (.iconst 0, 1) := by decide +kernel
theorem dR_hold_1 : decode prog_9_method_19_code 1 = .ok (.istore_n 2, 1) := by decide +kernel
theorem dR_hold_2 : decode prog_9_method_19_code 2 = .ok (.iload_n 2, 1) := by decide +kernel
theorem dR_hold_3 : decode prog_9_method_19_code 3 = .ok (.aload_n 0, 1) := by decide +kernel
theorem dR_hold_4 : decode prog_9_method_19_code 4 = .ok (.getfield 183, 3) := by decide +kernel
theorem dR_hold_7 : decode prog_9_method_19_code 7 = .ok (.if_icmp .ge 20, 3) := by decide +kernel
theorem dR_hold_10 : decode prog_9_method_19_code 10 = .ok (.aload_n 0, 1) := by decide +kernel
theorem dR_hold_11 : decode prog_9_method_19_code 11 = .ok (.getfield 131, 3) := by decide +kernel
theorem dR_hold_14 : decode prog_9_method_19_code 14 = .ok (.iload_n 2, 1) := by decide +kernel
theorem dR_hold_15 : decode prog_9_method_19_code 15 = .ok (.iaload, 1) := by decide +kernel
theorem dR_hold_16 : decode prog_9_method_19_code 16 = .ok (.iload_n 1, 1) := by decide +kernel
theorem dR_hold_17 : decode prog_9_method_19_code 17 = .ok (.if_icmp .ne 4, 3) := by decide +kernel
theorem dR_hold_20 : decode prog_9_method_19_code 20 = .ok (.return_, 1) := by decide +kernel
theorem dR_hold_21 : decode prog_9_method_19_code 21 = .ok (.iinc 2 1, 3) := by decide +kernel
theorem dR_hold_24 : decode prog_9_method_19_code 24 = .ok (.goto (-22), 3) := by decide +kernel
theorem dR_hold_27 : decode prog_9_method_19_code 27 = .ok (.aload_n 0, 1) := by decide +kernel
theorem dR_hold_28 : decode prog_9_method_19_code 28 = .ok (.getfield 131, 3) := by decide +kernel
theorem dR_hold_31 : decode prog_9_method_19_code 31 = .ok (.aload_n 0, 1) := by decide +kernel
theorem dR_hold_32 : decode prog_9_method_19_code 32 = .ok (.getfield 183, 3) := by decide +kernel
theorem dR_hold_35 : decode prog_9_method_19_code 35 = .ok (.iload_n 1, 1) := by decide +kernel
theorem dR_hold_36 : decode prog_9_method_19_code 36 = .ok (.iastore, 1) := by decide +kernel
theorem dR_hold_37 : decode prog_9_method_19_code 37 = .ok (.aload_n 0, 1) := by decide +kernel
theorem dR_hold_38 : decode prog_9_method_19_code 38 = .ok (.dup, 1) := by decide +kernel
theorem dR_hold_39 : decode prog_9_method_19_code 39 = .ok (.getfield 183, 3) := by decide +kernel
theorem dR_hold_42 : decode prog_9_method_19_code 42 = .ok (.iconst 1, 1) := by decide +kernel
theorem dR_hold_43 : decode prog_9_method_19_code 43 = .ok (.iadd, 1) := by decide +kernel
theorem dR_hold_44 : decode prog_9_method_19_code 44 = .ok (.putfield 183, 3) := by decide +kernel
theorem dR_hold_47 : decode prog_9_method_19_code 47 = .ok (.return_, 1) := by decide +kernel
theorem dR_isHeld_0 : decode prog_9_method_21_code 0 = .ok (.iconst 0, 1) := by decide +kernel
theorem dR_isHeld_1 : decode prog_9_method_21_code 1 = .ok (.istore_n 2, 1) := by decide +kernel
theorem dR_isHeld_2 : decode prog_9_method_21_code 2 = .ok (.iload_n 2, 1) := by decide +kernel
theorem dR_isHeld_3 : decode prog_9_method_21_code 3 = .ok (.aload_n 0, 1) := by decide +kernel
theorem dR_isHeld_4 : decode prog_9_method_21_code 4 = .ok (.getfield 183, 3) := by decide +kernel
theorem dR_isHeld_7 : decode prog_9_method_21_code 7 = .ok (.if_icmp .ge 21, 3) := by decide +kernel
theorem dR_isHeld_10 : decode prog_9_method_21_code 10 = .ok (.aload_n 0, 1) := by decide +kernel
theorem dR_isHeld_11 : decode prog_9_method_21_code 11 = .ok (.getfield 131, 3) := by decide +kernel
theorem dR_isHeld_14 : decode prog_9_method_21_code 14 = .ok (.iload_n 2, 1) := by decide +kernel
theorem dR_isHeld_15 : decode prog_9_method_21_code 15 = .ok (.iaload, 1) := by decide +kernel
theorem dR_isHeld_16 : decode prog_9_method_21_code 16 = .ok (.iload_n 1, 1) := by decide +kernel
theorem dR_isHeld_17 : decode prog_9_method_21_code 17 = .ok (.if_icmp .ne 5, 3) := by decide +kernel
theorem dR_isHeld_20 : decode prog_9_method_21_code 20 = .ok (.iconst 1, 1) := by decide +kernel
theorem dR_isHeld_21 : decode prog_9_method_21_code 21 = .ok (.ireturn, 1) := by decide +kernel
theorem dR_isHeld_22 : decode prog_9_method_21_code 22 = .ok (.iinc 2 1, 3) := by decide +kernel
theorem dR_isHeld_25 : decode prog_9_method_21_code 25 = .ok (.goto (-23), 3) := by decide +kernel
theorem dR_isHeld_28 : decode prog_9_method_21_code 28 = .ok (.iconst 0, 1) := by decide +kernel
theorem dR_isHeld_29 : decode prog_9_method_21_code 29 = .ok (.ireturn, 1) := by decide +kernel
theorem dR_compromise_0 : decode prog_9_method_49_code 0 = .ok (.aload_n 0, 1) := by decide +kernel
theorem dR_compromise_1 : decode prog_9_method_49_code 1 = .ok (.iload_n 1, 1) := by decide +kernel
theorem dR_compromise_2 : decode prog_9_method_49_code 2 = .ok (.bipush 16, 2) := by decide +kernel
theorem dR_compromise_4 : decode prog_9_method_49_code 4 = .ok (.invokestatic 264, 3) := by decide +kernel
theorem dR_compromise_7 : decode prog_9_method_49_code 7 = .ok (.ifCond .ne 7, 3) := by decide +kernel
theorem dR_compromise_10 : decode prog_9_method_49_code 10 = .ok (.iconst 1, 1) := by decide +kernel
theorem dR_compromise_11 : decode prog_9_method_49_code 11 = .ok (.goto 4, 3) := by decide +kernel
theorem dR_compromise_14 : decode prog_9_method_49_code 14 = .ok (.iconst 0, 1) := by decide +kernel
theorem dR_compromise_15 : decode prog_9_method_49_code 15 = .ok (.putfield 155, 3) := by decide +kernel
theorem dR_compromise_18 : decode prog_9_method_49_code 18 = .ok (.aload_n 0, 1) := by decide +kernel
theorem dR_compromise_19 : decode prog_9_method_49_code 19 = .ok (.getfield 155, 3) := by decide +kernel
theorem dR_compromise_22 : decode prog_9_method_49_code 22 = .ok (.ifCond .le 5, 3) := by decide +kernel
theorem dR_compromise_25 : decode prog_9_method_49_code 25 = .ok (.iconst 0, 1) := by decide +kernel
theorem dR_compromise_26 : decode prog_9_method_49_code 26 = .ok (.ireturn, 1) := by decide +kernel
theorem dR_compromise_27 : decode prog_9_method_49_code 27 = .ok (.aload_n 0, 1) := by decide +kernel
theorem dR_compromise_28 : decode prog_9_method_49_code 28 = .ok (.iload_n 1, 1) := by decide +kernel
theorem dR_compromise_29 : decode prog_9_method_49_code 29 = .ok (.invokevirtual 281, 3) := by decide +kernel
theorem dR_compromise_32 : decode prog_9_method_49_code 32 = .ok (.iconst 0, 1) := by decide +kernel
theorem dR_compromise_33 : decode prog_9_method_49_code 33 = .ok (.istore_n 2, 1) := by decide +kernel
theorem dR_compromise_34 : decode prog_9_method_49_code 34 = .ok (.iload_n 2, 1) := by decide +kernel
theorem dR_compromise_35 : decode prog_9_method_49_code 35 = .ok (.aload_n 0, 1) := by decide +kernel
theorem dR_compromise_36 : decode prog_9_method_49_code 36 = .ok (.getfield 183, 3) := by decide +kernel
theorem dR_compromise_39 : decode prog_9_method_49_code 39 = .ok (.if_icmp .ge 21, 3) := by decide +kernel
theorem dR_compromise_42 : decode prog_9_method_49_code 42 = .ok (.aload_n 0, 1) := by decide +kernel
theorem dR_compromise_43 : decode prog_9_method_49_code 43 = .ok (.getfield 19, 3) := by decide +kernel
theorem dR_compromise_46 : decode prog_9_method_49_code 46 = .ok (.aload_n 0, 1) := by decide +kernel
theorem dR_compromise_47 : decode prog_9_method_49_code 47 = .ok (.getfield 131, 3) := by decide +kernel
theorem dR_compromise_50 : decode prog_9_method_49_code 50 = .ok (.iload_n 2, 1) := by decide +kernel
theorem dR_compromise_51 : decode prog_9_method_49_code 51 = .ok (.iaload, 1) := by decide +kernel
theorem dR_compromise_52 : decode prog_9_method_49_code 52 = .ok (.iconst 1, 1) := by decide +kernel
theorem dR_compromise_53 : decode prog_9_method_49_code 53 = .ok (.bastore, 1) := by decide +kernel
theorem dR_compromise_54 : decode prog_9_method_49_code 54 = .ok (.iinc 2 1, 3) := by decide +kernel
theorem dR_compromise_57 : decode prog_9_method_49_code 57 = .ok (.goto (-23), 3) := by decide +kernel
theorem dR_compromise_60 : decode prog_9_method_49_code 60 = .ok (.aload_n 0, 1) := by decide +kernel
theorem dR_compromise_61 : decode prog_9_method_49_code 61 = .ok (.getfield 183, 3) := by decide +kernel
theorem dR_compromise_64 : decode prog_9_method_49_code 64 = .ok (.ireturn, 1) := by decide +kernel
theorem dR_member_0 : decode prog_9_method_50_code 0 = .ok (.aload_n 0, 1) := by decide +kernel
theorem dR_member_1 : decode prog_9_method_50_code 1 = .ok (.iconst 0, 1) := by decide +kernel
theorem dR_member_2 : decode prog_9_method_50_code 2 = .ok (.putfield 155, 3) := by decide +kernel
theorem dR_member_5 : decode prog_9_method_50_code 5 = .ok (.iload_n 1, 1) := by decide +kernel
theorem dR_member_6 : decode prog_9_method_50_code 6 = .ok (.bipush 16, 2) := by decide +kernel
theorem dR_member_8 : decode prog_9_method_50_code 8 = .ok (.invokestatic 264, 3) := by decide +kernel
theorem dR_member_11 : decode prog_9_method_50_code 11 = .ok (.ifCond .ne 5, 3) := by decide +kernel
theorem dR_member_14 : decode prog_9_method_50_code 14 = .ok (.iconst (-1), 1) := by decide +kernel
theorem dR_member_15 : decode prog_9_method_50_code 15 = .ok (.ireturn, 1) := by decide +kernel
theorem dR_member_16 : decode prog_9_method_50_code 16 = .ok (.iload_n 2, 1) := by decide +kernel
theorem dR_member_17 : decode prog_9_method_50_code 17 = .ok (.iconst 2, 1) := by decide +kernel
theorem dR_member_18 : decode prog_9_method_50_code 18 = .ok (.if_icmp .ne 8, 3) := by decide +kernel
theorem dR_member_21 : decode prog_9_method_50_code 21 = .ok (.aload_n 0, 1) := by decide +kernel
theorem dR_member_22 : decode prog_9_method_50_code 22 = .ok (.iload_n 1, 1) := by decide +kernel
theorem dR_member_23 : decode prog_9_method_50_code 23 = .ok (.invokevirtual 281, 3) := by decide +kernel
theorem dR_member_26 : decode prog_9_method_50_code 26 = .ok (.iload_n 2, 1) := by decide +kernel
theorem dR_member_27 : decode prog_9_method_50_code 27 = .ok (.ifCond .ne 12, 3) := by decide +kernel
theorem dR_member_30 : decode prog_9_method_50_code 30 = .ok (.aload_n 0, 1) := by decide +kernel
theorem dR_member_31 : decode prog_9_method_50_code 31 = .ok (.getfield 80, 3) := by decide +kernel
theorem dR_member_34 : decode prog_9_method_50_code 34 = .ok (.iload_n 1, 1) := by decide +kernel
theorem dR_member_35 : decode prog_9_method_50_code 35 = .ok (.iaload, 1) := by decide +kernel
theorem dR_member_36 : decode prog_9_method_50_code 36 = .ok (.goto 44, 3) := by decide +kernel
theorem dR_member_39 : decode prog_9_method_50_code 39 = .ok (.iload_n 2, 1) := by decide +kernel
theorem dR_member_40 : decode prog_9_method_50_code 40 = .ok (.iconst 1, 1) := by decide +kernel
theorem dR_member_41 : decode prog_9_method_50_code 41 = .ok (.if_icmp .ne 12, 3) := by decide +kernel
theorem dR_member_44 : decode prog_9_method_50_code 44 = .ok (.aload_n 0, 1) := by decide +kernel
theorem dR_member_45 : decode prog_9_method_50_code 45 = .ok (.getfield 83, 3) := by decide +kernel
theorem dR_member_48 : decode prog_9_method_50_code 48 = .ok (.iload_n 1, 1) := by decide +kernel
theorem dR_member_49 : decode prog_9_method_50_code 49 = .ok (.iaload, 1) := by decide +kernel
theorem dR_member_50 : decode prog_9_method_50_code 50 = .ok (.goto 30, 3) := by decide +kernel
theorem dR_member_53 : decode prog_9_method_50_code 53 = .ok (.iload_n 2, 1) := by decide +kernel
theorem dR_member_54 : decode prog_9_method_50_code 54 = .ok (.iconst 2, 1) := by decide +kernel
theorem dR_member_55 : decode prog_9_method_50_code 55 = .ok (.if_icmp .ne 10, 3) := by decide +kernel
theorem dR_member_58 : decode prog_9_method_50_code 58 = .ok (.aload_n 0, 1) := by decide +kernel
theorem dR_member_59 : decode prog_9_method_50_code 59 = .ok (.getfield 183, 3) := by decide +kernel
theorem dR_member_62 : decode prog_9_method_50_code 62 = .ok (.goto 18, 3) := by decide +kernel
theorem dR_member_65 : decode prog_9_method_50_code 65 = .ok (.iload_n 2, 1) := by decide +kernel
theorem dR_member_66 : decode prog_9_method_50_code 66 = .ok (.iconst 3, 1) := by decide +kernel
theorem dR_member_67 : decode prog_9_method_50_code 67 = .ok (.if_icmp .ne 12, 3) := by decide +kernel
theorem dR_member_70 : decode prog_9_method_50_code 70 = .ok (.aload_n 0, 1) := by decide +kernel
theorem dR_member_71 : decode prog_9_method_50_code 71 = .ok (.getfield 89, 3) := by decide +kernel
theorem dR_member_74 : decode prog_9_method_50_code 74 = .ok (.iload_n 1, 1) := by decide +kernel
theorem dR_member_75 : decode prog_9_method_50_code 75 = .ok (.iaload, 1) := by decide +kernel
theorem dR_member_76 : decode prog_9_method_50_code 76 = .ok (.goto 4, 3) := by decide +kernel
theorem dR_member_79 : decode prog_9_method_50_code 79 = .ok (.iconst (-1), 1) := by decide +kernel
theorem dR_member_80 : decode prog_9_method_50_code 80 = .ok (.ireturn, 1) := by decide +kernel
theorem dR_holds_0 : decode prog_9_method_51_code 0 = .ok (.aload_n 0, 1) := by decide +kernel
theorem dR_holds_1 : decode prog_9_method_51_code 1 = .ok (.iconst 0, 1) := by decide +kernel
theorem dR_holds_2 : decode prog_9_method_51_code 2 = .ok (.putfield 155, 3) := by decide +kernel
theorem dR_holds_5 : decode prog_9_method_51_code 5 = .ok (.iload_n 1, 1) := by decide +kernel
theorem dR_holds_6 : decode prog_9_method_51_code 6 = .ok (.bipush 16, 2) := by decide +kernel
theorem dR_holds_8 : decode prog_9_method_51_code 8 = .ok (.invokestatic 264, 3) := by decide +kernel
theorem dR_holds_11 : decode prog_9_method_51_code 11 = .ok (.ifCond .eq 30, 3) := by decide +kernel
theorem dR_holds_14 : decode prog_9_method_51_code 14 = .ok (.aload_n 0, 1) := by decide +kernel
theorem dR_holds_15 : decode prog_9_method_51_code 15 = .ok (.getfield 80, 3) := by decide +kernel
theorem dR_holds_18 : decode prog_9_method_51_code 18 = .ok (.iload_n 1, 1) := by decide +kernel
theorem dR_holds_19 : decode prog_9_method_51_code 19 = .ok (.iaload, 1) := by decide +kernel
theorem dR_holds_20 : decode prog_9_method_51_code 20 = .ok (.iconst (-1), 1) := by decide +kernel
theorem dR_holds_21 : decode prog_9_method_51_code 21 = .ok (.if_icmp .eq 20, 3) := by decide +kernel
theorem dR_holds_24 : decode prog_9_method_51_code 24 = .ok (.iload_n 2, 1) := by decide +kernel
theorem dR_holds_25 : decode prog_9_method_51_code 25 = .ok (.aload_n 0, 1) := by decide +kernel
theorem dR_holds_26 : decode prog_9_method_51_code 26 = .ok (.aload_n 0, 1) := by decide +kernel
theorem dR_holds_27 : decode prog_9_method_51_code 27 = .ok (.getfield 80, 3) := by decide +kernel
theorem dR_holds_30 : decode prog_9_method_51_code 30 = .ok (.iload_n 1, 1) := by decide +kernel
theorem dR_holds_31 : decode prog_9_method_51_code 31 = .ok (.iaload, 1) := by decide +kernel
theorem dR_holds_32 : decode prog_9_method_51_code 32 = .ok (.invokevirtual 192, 3) := by decide +kernel
theorem dR_holds_35 : decode prog_9_method_51_code 35 = .ok (.invokestatic 264, 3) := by decide +kernel
theorem dR_holds_38 : decode prog_9_method_51_code 38 = .ok (.ifCond .ne 5, 3) := by decide +kernel
theorem dR_holds_41 : decode prog_9_method_51_code 41 = .ok (.iconst 0, 1) := by decide +kernel
theorem dR_holds_42 : decode prog_9_method_51_code 42 = .ok (.ireturn, 1) := by decide +kernel
theorem dR_holds_43 : decode prog_9_method_51_code 43 = .ok (.aload_n 0, 1) := by decide +kernel
theorem dR_holds_44 : decode prog_9_method_51_code 44 = .ok (.getfield 65, 3) := by decide +kernel
theorem dR_holds_47 : decode prog_9_method_51_code 47 = .ok (.bipush 31, 2) := by decide +kernel
theorem dR_holds_49 : decode prog_9_method_51_code 49 = .ok (.aload_n 0, 1) := by decide +kernel
theorem dR_holds_50 : decode prog_9_method_51_code 50 = .ok (.getfield 80, 3) := by decide +kernel
theorem dR_holds_53 : decode prog_9_method_51_code 53 = .ok (.iload_n 1, 1) := by decide +kernel
theorem dR_holds_54 : decode prog_9_method_51_code 54 = .ok (.iaload, 1) := by decide +kernel
theorem dR_holds_55 : decode prog_9_method_51_code 55 = .ok (.imul, 1) := by decide +kernel
theorem dR_holds_56 : decode prog_9_method_51_code 56 = .ok (.iload_n 2, 1) := by decide +kernel
theorem dR_holds_57 : decode prog_9_method_51_code 57 = .ok (.iadd, 1) := by decide +kernel
theorem dR_holds_58 : decode prog_9_method_51_code 58 = .ok (.iaload, 1) := by decide +kernel
theorem dR_holds_59 : decode prog_9_method_51_code 59 = .ok (.istore_n 3, 1) := by decide +kernel
theorem dR_holds_60 : decode prog_9_method_51_code 60 = .ok (.aload_n 0, 1) := by decide +kernel
theorem dR_holds_61 : decode prog_9_method_51_code 61 = .ok (.iload_n 1, 1) := by decide +kernel
theorem dR_holds_62 : decode prog_9_method_51_code 62 = .ok (.invokevirtual 281, 3) := by decide +kernel
theorem dR_holds_65 : decode prog_9_method_51_code 65 = .ok (.iload_n 3, 1) := by decide +kernel
theorem dR_holds_66 : decode prog_9_method_51_code 66 = .ok (.iconst (-1), 1) := by decide +kernel
theorem dR_holds_67 : decode prog_9_method_51_code 67 = .ok (.if_icmp .eq 15, 3) := by decide +kernel
theorem dR_holds_70 : decode prog_9_method_51_code 70 = .ok (.aload_n 0, 1) := by decide +kernel
theorem dR_holds_71 : decode prog_9_method_51_code 71 = .ok (.iload_n 3, 1) := by decide +kernel
theorem dR_holds_72 : decode prog_9_method_51_code 72 = .ok (.invokevirtual 284, 3) := by decide +kernel
theorem dR_holds_75 : decode prog_9_method_51_code 75 = .ok (.ifCond .eq 7, 3) := by decide +kernel
theorem dR_holds_78 : decode prog_9_method_51_code 78 = .ok (.iconst 1, 1) := by decide +kernel
theorem dR_holds_79 : decode prog_9_method_51_code 79 = .ok (.goto 4, 3) := by decide +kernel
theorem dR_holds_82 : decode prog_9_method_51_code 82 = .ok (.iconst 0, 1) := by decide +kernel
theorem dR_holds_83 : decode prog_9_method_51_code 83 = .ok (.ireturn, 1) := by decide +kernel
theorem dR_has_0 : decode prog_9_method_52_code 0 = .ok (.aload_n 0, 1) := by decide +kernel
theorem dR_has_1 : decode prog_9_method_52_code 1 = .ok (.iconst 0, 1) := by decide +kernel
theorem dR_has_2 : decode prog_9_method_52_code 2 = .ok (.putfield 155, 3) := by decide +kernel
theorem dR_has_5 : decode prog_9_method_52_code 5 = .ok (.iload_n 1, 1) := by decide +kernel
theorem dR_has_6 : decode prog_9_method_52_code 6 = .ok (.bipush 16, 2) := by decide +kernel
theorem dR_has_8 : decode prog_9_method_52_code 8 = .ok (.invokestatic 264, 3) := by decide +kernel
theorem dR_has_11 : decode prog_9_method_52_code 11 = .ok (.ifCond .eq 16, 3) := by decide +kernel
theorem dR_has_14 : decode prog_9_method_52_code 14 = .ok (.aload_n 0, 1) := by decide +kernel
theorem dR_has_15 : decode prog_9_method_52_code 15 = .ok (.getfield 95, 3) := by decide +kernel
theorem dR_has_18 : decode prog_9_method_52_code 18 = .ok (.iload_n 1, 1) := by decide +kernel
theorem dR_has_19 : decode prog_9_method_52_code 19 = .ok (.baload, 1) := by decide +kernel
theorem dR_has_20 : decode prog_9_method_52_code 20 = .ok (.ifCond .eq 7, 3) := by decide +kernel
theorem dR_has_23 : decode prog_9_method_52_code 23 = .ok (.iconst 1, 1) := by decide +kernel
theorem dR_has_24 : decode prog_9_method_52_code 24 = .ok (.goto 4, 3) := by decide +kernel
theorem dR_has_27 : decode prog_9_method_52_code 27 = .ok (.iconst 0, 1) := by decide +kernel
theorem dR_has_28 : decode prog_9_method_52_code 28 = .ok (.ireturn, 1) := by decide +kernel
theorem dR_node_0 : decode prog_9_method_53_code 0 = .ok (.aload_n 0, 1) := by decide +kernel
theorem dR_node_1 : decode prog_9_method_53_code 1 = .ok (.iconst 0, 1) := by decide +kernel
theorem dR_node_2 : decode prog_9_method_53_code 2 = .ok (.putfield 155, 3) := by decide +kernel
theorem dR_node_5 : decode prog_9_method_53_code 5 = .ok (.iload_n 1, 1) := by decide +kernel
theorem dR_node_6 : decode prog_9_method_53_code 6 = .ok (.aload_n 0, 1) := by decide +kernel
theorem dR_node_7 : decode prog_9_method_53_code 7 = .ok (.getfield 151, 3) := by decide +kernel
theorem dR_node_10 : decode prog_9_method_53_code 10 = .ok (.invokestatic 264, 3) := by decide +kernel
theorem dR_node_13 : decode prog_9_method_53_code 13 = .ok (.ifCond .eq 15, 3) := by decide +kernel
theorem dR_node_16 : decode prog_9_method_53_code 16 = .ok (.iload_n 2, 1) := by decide +kernel
theorem dR_node_17 : decode prog_9_method_53_code 17 = .ok (.aload_n 0, 1) := by decide +kernel
theorem dR_node_18 : decode prog_9_method_53_code 18 = .ok (.iload_n 1, 1) := by decide +kernel
theorem dR_node_19 : decode prog_9_method_53_code 19 = .ok (.invokevirtual 192, 3) := by decide +kernel
theorem dR_node_22 : decode prog_9_method_53_code 22 = .ok (.invokestatic 264, 3) := by decide +kernel
theorem dR_node_25 : decode prog_9_method_53_code 25 = .ok (.ifCond .ne 5, 3) := by decide +kernel
theorem dR_node_28 : decode prog_9_method_53_code 28 = .ok (.iconst (-1), 1) := by decide +kernel
theorem dR_node_29 : decode prog_9_method_53_code 29 = .ok (.ireturn, 1) := by decide +kernel
theorem dR_node_30 : decode prog_9_method_53_code 30 = .ok (.bipush 31, 2) := by decide +kernel
theorem dR_node_32 : decode prog_9_method_53_code 32 = .ok (.iload_n 1, 1) := by decide +kernel
theorem dR_node_33 : decode prog_9_method_53_code 33 = .ok (.imul, 1) := by decide +kernel
theorem dR_node_34 : decode prog_9_method_53_code 34 = .ok (.iload_n 2, 1) := by decide +kernel
theorem dR_node_35 : decode prog_9_method_53_code 35 = .ok (.iadd, 1) := by decide +kernel
theorem dR_node_36 : decode prog_9_method_53_code 36 = .ok (.istore 4, 2) := by decide +kernel
theorem dR_node_38 : decode prog_9_method_53_code 38 = .ok (.iload_n 3, 1) := by decide +kernel
theorem dR_node_39 : decode prog_9_method_53_code 39 = .ok (.iconst 3, 1) := by decide +kernel
theorem dR_node_40 : decode prog_9_method_53_code 40 = .ok (.if_icmp .ne 9, 3) := by decide +kernel
theorem dR_node_43 : decode prog_9_method_53_code 43 = .ok (.aload_n 0, 1) := by decide +kernel
theorem dR_node_44 : decode prog_9_method_53_code 44 = .ok (.iload_n 1, 1) := by decide +kernel
theorem dR_node_45 : decode prog_9_method_53_code 45 = .ok (.iload_n 2, 1) := by decide +kernel
theorem dR_node_46 : decode prog_9_method_53_code 46 = .ok (.invokevirtual 218, 3) := by decide +kernel
theorem dR_node_49 : decode prog_9_method_53_code 49 = .ok (.iload_n 3, 1) := by decide +kernel
theorem dR_node_50 : decode prog_9_method_53_code 50 = .ok (.ifCond .ne 22, 3) := by decide +kernel
theorem dR_node_53 : decode prog_9_method_53_code 53 = .ok (.aload_n 0, 1) := by decide +kernel
theorem dR_node_54 : decode prog_9_method_53_code 54 = .ok (.getfield 65, 3) := by decide +kernel
theorem dR_node_57 : decode prog_9_method_53_code 57 = .ok (.iload 4, 2) := by decide +kernel
theorem dR_node_59 : decode prog_9_method_53_code 59 = .ok (.iaload, 1) := by decide +kernel
theorem dR_node_60 : decode prog_9_method_53_code 60 = .ok (.iconst (-1), 1) := by decide +kernel
theorem dR_node_61 : decode prog_9_method_53_code 61 = .ok (.if_icmp .ne 7, 3) := by decide +kernel
theorem dR_node_64 : decode prog_9_method_53_code 64 = .ok (.iconst 0, 1) := by decide +kernel
theorem dR_node_65 : decode prog_9_method_53_code 65 = .ok (.goto 65, 3) := by decide +kernel
theorem dR_node_68 : decode prog_9_method_53_code 68 = .ok (.iconst 1, 1) := by decide +kernel
theorem dR_node_69 : decode prog_9_method_53_code 69 = .ok (.goto 61, 3) := by decide +kernel
theorem dR_node_72 : decode prog_9_method_53_code 72 = .ok (.iload_n 3, 1) := by decide +kernel
theorem dR_node_73 : decode prog_9_method_53_code 73 = .ok (.iconst 1, 1) := by decide +kernel
theorem dR_node_74 : decode prog_9_method_53_code 74 = .ok (.if_icmp .ne 13, 3) := by decide +kernel
theorem dR_node_77 : decode prog_9_method_53_code 77 = .ok (.aload_n 0, 1) := by decide +kernel
theorem dR_node_78 : decode prog_9_method_53_code 78 = .ok (.getfield 68, 3) := by decide +kernel
theorem dR_node_81 : decode prog_9_method_53_code 81 = .ok (.iload 4, 2) := by decide +kernel
theorem dR_node_83 : decode prog_9_method_53_code 83 = .ok (.iaload, 1) := by decide +kernel
theorem dR_node_84 : decode prog_9_method_53_code 84 = .ok (.goto 46, 3) := by decide +kernel
theorem dR_node_87 : decode prog_9_method_53_code 87 = .ok (.iload_n 3, 1) := by decide +kernel
theorem dR_node_88 : decode prog_9_method_53_code 88 = .ok (.iconst 2, 1) := by decide +kernel
theorem dR_node_89 : decode prog_9_method_53_code 89 = .ok (.if_icmp .ne 28, 3) := by decide +kernel
theorem dR_node_92 : decode prog_9_method_53_code 92 = .ok (.aload_n 0, 1) := by decide +kernel
theorem dR_node_93 : decode prog_9_method_53_code 93 = .ok (.getfield 65, 3) := by decide +kernel
theorem dR_node_96 : decode prog_9_method_53_code 96 = .ok (.iload 4, 2) := by decide +kernel
theorem dR_node_98 : decode prog_9_method_53_code 98 = .ok (.iaload, 1) := by decide +kernel
theorem dR_node_99 : decode prog_9_method_53_code 99 = .ok (.iconst (-1), 1) := by decide +kernel
theorem dR_node_100 : decode prog_9_method_53_code 100 = .ok (.if_icmp .ne 7, 3) := by decide +kernel
theorem dR_node_103 : decode prog_9_method_53_code 103 = .ok (.iconst (-1), 1) := by decide +kernel
theorem dR_node_104 : decode prog_9_method_53_code 104 = .ok (.goto 26, 3) := by decide +kernel
theorem dR_node_107 : decode prog_9_method_53_code 107 = .ok (.aload_n 0, 1) := by decide +kernel
theorem dR_node_108 : decode prog_9_method_53_code 108 = .ok (.getfield 71, 3) := by decide +kernel
theorem dR_node_111 : decode prog_9_method_53_code 111 = .ok (.iload 4, 2) := by decide +kernel
theorem dR_node_113 : decode prog_9_method_53_code 113 = .ok (.iaload, 1) := by decide +kernel
theorem dR_node_114 : decode prog_9_method_53_code 114 = .ok (.goto 16, 3) := by decide +kernel
theorem dR_node_117 : decode prog_9_method_53_code 117 = .ok (.iload_n 3, 1) := by decide +kernel
theorem dR_node_118 : decode prog_9_method_53_code 118 = .ok (.iconst 3, 1) := by decide +kernel
theorem dR_node_119 : decode prog_9_method_53_code 119 = .ok (.if_icmp .ne 10, 3) := by decide +kernel
theorem dR_node_122 : decode prog_9_method_53_code 122 = .ok (.aload_n 0, 1) := by decide +kernel
theorem dR_node_123 : decode prog_9_method_53_code 123 = .ok (.getfield 176, 3) := by decide +kernel
theorem dR_node_126 : decode prog_9_method_53_code 126 = .ok (.goto 4, 3) := by decide +kernel
theorem dR_node_129 : decode prog_9_method_53_code 129 = .ok (.iconst (-1), 1) := by decide +kernel
theorem dR_node_130 : decode prog_9_method_53_code 130 = .ok (.ireturn, 1) := by decide +kernel
theorem dR_epoch_0 : decode prog_9_method_54_code 0 = .ok (.aload_n 0, 1) := by decide +kernel
theorem dR_epoch_1 : decode prog_9_method_54_code 1 = .ok (.iconst 0, 1) := by decide +kernel
theorem dR_epoch_2 : decode prog_9_method_54_code 2 = .ok (.putfield 155, 3) := by decide +kernel
theorem dR_epoch_5 : decode prog_9_method_54_code 5 = .ok (.iload_n 1, 1) := by decide +kernel
theorem dR_epoch_6 : decode prog_9_method_54_code 6 = .ok (.aload_n 0, 1) := by decide +kernel
theorem dR_epoch_7 : decode prog_9_method_54_code 7 = .ok (.getfield 151, 3) := by decide +kernel
theorem dR_epoch_10 : decode prog_9_method_54_code 10 = .ok (.invokestatic 264, 3) := by decide +kernel
theorem dR_epoch_13 : decode prog_9_method_54_code 13 = .ok (.ifCond .ne 5, 3) := by decide +kernel
theorem dR_epoch_16 : decode prog_9_method_54_code 16 = .ok (.iconst (-1), 1) := by decide +kernel
theorem dR_epoch_17 : decode prog_9_method_54_code 17 = .ok (.ireturn, 1) := by decide +kernel
theorem dR_epoch_18 : decode prog_9_method_54_code 18 = .ok (.iload_n 2, 1) := by decide +kernel
theorem dR_epoch_19 : decode prog_9_method_54_code 19 = .ok (.tableswitch 90 0 6 #[41, 48, 55, 62, 69, 76, 83], 41) := by decide +kernel
theorem dR_epoch_60 : decode prog_9_method_54_code 60 = .ok (.aload_n 0, 1) := by decide +kernel
theorem dR_epoch_61 : decode prog_9_method_54_code 61 = .ok (.getfield 38, 3) := by decide +kernel
theorem dR_epoch_64 : decode prog_9_method_54_code 64 = .ok (.iload_n 1, 1) := by decide +kernel
theorem dR_epoch_65 : decode prog_9_method_54_code 65 = .ok (.iaload, 1) := by decide +kernel
theorem dR_epoch_66 : decode prog_9_method_54_code 66 = .ok (.ireturn, 1) := by decide +kernel
theorem dR_epoch_67 : decode prog_9_method_54_code 67 = .ok (.aload_n 0, 1) := by decide +kernel
theorem dR_epoch_68 : decode prog_9_method_54_code 68 = .ok (.getfield 44, 3) := by decide +kernel
theorem dR_epoch_71 : decode prog_9_method_54_code 71 = .ok (.iload_n 1, 1) := by decide +kernel
theorem dR_epoch_72 : decode prog_9_method_54_code 72 = .ok (.iaload, 1) := by decide +kernel
theorem dR_epoch_73 : decode prog_9_method_54_code 73 = .ok (.ireturn, 1) := by decide +kernel
theorem dR_epoch_74 : decode prog_9_method_54_code 74 = .ok (.aload_n 0, 1) := by decide +kernel
theorem dR_epoch_75 : decode prog_9_method_54_code 75 = .ok (.getfield 47, 3) := by decide +kernel
theorem dR_epoch_78 : decode prog_9_method_54_code 78 = .ok (.iload_n 1, 1) := by decide +kernel
theorem dR_epoch_79 : decode prog_9_method_54_code 79 = .ok (.iaload, 1) := by decide +kernel
theorem dR_epoch_80 : decode prog_9_method_54_code 80 = .ok (.ireturn, 1) := by decide +kernel
theorem dR_epoch_81 : decode prog_9_method_54_code 81 = .ok (.aload_n 0, 1) := by decide +kernel
theorem dR_epoch_82 : decode prog_9_method_54_code 82 = .ok (.getfield 50, 3) := by decide +kernel
theorem dR_epoch_85 : decode prog_9_method_54_code 85 = .ok (.iload_n 1, 1) := by decide +kernel
theorem dR_epoch_86 : decode prog_9_method_54_code 86 = .ok (.iaload, 1) := by decide +kernel
theorem dR_epoch_87 : decode prog_9_method_54_code 87 = .ok (.ireturn, 1) := by decide +kernel
theorem dR_epoch_88 : decode prog_9_method_54_code 88 = .ok (.aload_n 0, 1) := by decide +kernel
theorem dR_epoch_89 : decode prog_9_method_54_code 89 = .ok (.getfield 53, 3) := by decide +kernel
theorem dR_epoch_92 : decode prog_9_method_54_code 92 = .ok (.iload_n 1, 1) := by decide +kernel
theorem dR_epoch_93 : decode prog_9_method_54_code 93 = .ok (.iaload, 1) := by decide +kernel
theorem dR_epoch_94 : decode prog_9_method_54_code 94 = .ok (.ireturn, 1) := by decide +kernel
theorem dR_epoch_95 : decode prog_9_method_54_code 95 = .ok (.aload_n 0, 1) := by decide +kernel
theorem dR_epoch_96 : decode prog_9_method_54_code 96 = .ok (.getfield 56, 3) := by decide +kernel
theorem dR_epoch_99 : decode prog_9_method_54_code 99 = .ok (.iload_n 1, 1) := by decide +kernel
theorem dR_epoch_100 : decode prog_9_method_54_code 100 = .ok (.iaload, 1) := by decide +kernel
theorem dR_epoch_101 : decode prog_9_method_54_code 101 = .ok (.ireturn, 1) := by decide +kernel
theorem dR_epoch_102 : decode prog_9_method_54_code 102 = .ok (.aload_n 0, 1) := by decide +kernel
theorem dR_epoch_103 : decode prog_9_method_54_code 103 = .ok (.getfield 59, 3) := by decide +kernel
theorem dR_epoch_106 : decode prog_9_method_54_code 106 = .ok (.iload_n 1, 1) := by decide +kernel
theorem dR_epoch_107 : decode prog_9_method_54_code 107 = .ok (.iaload, 1) := by decide +kernel
theorem dR_epoch_108 : decode prog_9_method_54_code 108 = .ok (.ireturn, 1) := by decide +kernel
theorem dR_epoch_109 : decode prog_9_method_54_code 109 = .ok (.iconst (-1), 1) := by decide +kernel
theorem dR_epoch_110 : decode prog_9_method_54_code 110 = .ok (.ireturn, 1) := by decide +kernel
theorem dR_epochs_0 : decode prog_9_method_55_code 0 = .ok (.aload_n 0, 1) := by decide +kernel
theorem dR_epochs_1 : decode prog_9_method_55_code 1 = .ok (.iconst 0, 1) := by decide +kernel
theorem dR_epochs_2 : decode prog_9_method_55_code 2 = .ok (.putfield 155, 3) := by decide +kernel
theorem dR_epochs_5 : decode prog_9_method_55_code 5 = .ok (.aload_n 0, 1) := by decide +kernel
theorem dR_epochs_6 : decode prog_9_method_55_code 6 = .ok (.getfield 151, 3) := by decide +kernel
theorem dR_epochs_9 : decode prog_9_method_55_code 9 = .ok (.ireturn, 1) := by decide +kernel
theorem dR_waiting_0 : decode prog_9_method_56_code 0 = .ok (.aload_n 0, 1) := by decide +kernel
theorem dR_waiting_1 : decode prog_9_method_56_code 1 = .ok (.iconst 0, 1) := by decide +kernel
theorem dR_waiting_2 : decode prog_9_method_56_code 2 = .ok (.putfield 155, 3) := by decide +kernel
theorem dR_waiting_5 : decode prog_9_method_56_code 5 = .ok (.aload_n 0, 1) := by decide +kernel
theorem dR_waiting_6 : decode prog_9_method_56_code 6 = .ok (.getfield 195, 3) := by decide +kernel
theorem dR_waiting_9 : decode prog_9_method_56_code 9 = .ok (.ireturn, 1) := by decide +kernel
theorem dR_isKnown_0 : decode prog_9_method_57_code 0 = .ok (.aload_n 0, 1) := by decide +kernel
theorem dR_isKnown_1 : decode prog_9_method_57_code 1 = .ok (.iconst 0, 1) := by decide +kernel
theorem dR_isKnown_2 : decode prog_9_method_57_code 2 = .ok (.putfield 155, 3) := by decide +kernel
theorem dR_isKnown_5 : decode prog_9_method_57_code 5 = .ok (.iload_n 1, 1) := by decide +kernel
theorem dR_isKnown_6 : decode prog_9_method_57_code 6 = .ok (.aload_n 0, 1) := by decide +kernel
theorem dR_isKnown_7 : decode prog_9_method_57_code 7 = .ok (.getfield 151, 3) := by decide +kernel
theorem dR_isKnown_10 : decode prog_9_method_57_code 10 = .ok (.invokestatic 264, 3) := by decide +kernel
theorem dR_isKnown_13 : decode prog_9_method_57_code 13 = .ok (.ifCond .ne 5, 3) := by decide +kernel
theorem dR_isKnown_16 : decode prog_9_method_57_code 16 = .ok (.iconst 0, 1) := by decide +kernel
theorem dR_isKnown_17 : decode prog_9_method_57_code 17 = .ok (.ireturn, 1) := by decide +kernel
theorem dR_isKnown_18 : decode prog_9_method_57_code 18 = .ok (.aload_n 0, 1) := by decide +kernel
theorem dR_isKnown_19 : decode prog_9_method_57_code 19 = .ok (.invokevirtual 296, 3) := by decide +kernel
theorem dR_isKnown_22 : decode prog_9_method_57_code 22 = .ok (.aload_n 0, 1) := by decide +kernel
theorem dR_isKnown_23 : decode prog_9_method_57_code 23 = .ok (.getfield 23, 3) := by decide +kernel
theorem dR_isKnown_26 : decode prog_9_method_57_code 26 = .ok (.aload_n 0, 1) := by decide +kernel
theorem dR_isKnown_27 : decode prog_9_method_57_code 27 = .ok (.getfield 41, 3) := by decide +kernel
theorem dR_isKnown_30 : decode prog_9_method_57_code 30 = .ok (.iload_n 1, 1) := by decide +kernel
theorem dR_isKnown_31 : decode prog_9_method_57_code 31 = .ok (.iaload, 1) := by decide +kernel
theorem dR_isKnown_32 : decode prog_9_method_57_code 32 = .ok (.baload, 1) := by decide +kernel
theorem dR_isKnown_33 : decode prog_9_method_57_code 33 = .ok (.ireturn, 1) := by decide +kernel
theorem dR_intrude_0 : decode prog_9_method_8_code 0 = .ok (.iconst 0, 1) := by decide +kernel
theorem dR_intrude_1 : decode prog_9_method_8_code 1 = .ok (.istore_n 1, 1) := by decide +kernel
theorem dR_intrude_2 : decode prog_9_method_8_code 2 = .ok (.iload_n 1, 1) := by decide +kernel
theorem dR_intrude_3 : decode prog_9_method_8_code 3 = .ok (.aload_n 0, 1) := by decide +kernel
theorem dR_intrude_4 : decode prog_9_method_8_code 4 = .ok (.getfield 158, 3) := by decide +kernel
theorem dR_intrude_7 : decode prog_9_method_8_code 7 = .ok (.if_icmp .ge 21, 3) := by decide +kernel
theorem dR_intrude_10 : decode prog_9_method_8_code 10 = .ok (.aload_n 0, 1) := by decide +kernel
theorem dR_intrude_11 : decode prog_9_method_8_code 11 = .ok (.getfield 23, 3) := by decide +kernel
theorem dR_intrude_14 : decode prog_9_method_8_code 14 = .ok (.iload_n 1, 1) := by decide +kernel
theorem dR_intrude_15 : decode prog_9_method_8_code 15 = .ok (.aload_n 0, 1) := by decide +kernel
theorem dR_intrude_16 : decode prog_9_method_8_code 16 = .ok (.getfield 19, 3) := by decide +kernel
theorem dR_intrude_19 : decode prog_9_method_8_code 19 = .ok (.iload_n 1, 1) := by decide +kernel
theorem dR_intrude_20 : decode prog_9_method_8_code 20 = .ok (.baload, 1) := by decide +kernel
theorem dR_intrude_21 : decode prog_9_method_8_code 21 = .ok (.bastore, 1) := by decide +kernel
theorem dR_intrude_22 : decode prog_9_method_8_code 22 = .ok (.iinc 1 1, 3) := by decide +kernel
theorem dR_intrude_25 : decode prog_9_method_8_code 25 = .ok (.goto (-23), 3) := by decide +kernel
theorem dR_intrude_28 : decode prog_9_method_8_code 28 = .ok (.iconst 1, 1) := by decide +kernel
theorem dR_intrude_29 : decode prog_9_method_8_code 29 = .ok (.istore_n 1, 1) := by decide +kernel
theorem dR_intrude_30 : decode prog_9_method_8_code 30 = .ok (.iload_n 1, 1) := by decide +kernel
theorem dR_intrude_31 : decode prog_9_method_8_code 31 = .ok (.ifCond .eq 114, 3) := by decide +kernel
theorem dR_intrude_34 : decode prog_9_method_8_code 34 = .ok (.iconst 0, 1) := by decide +kernel
theorem dR_intrude_35 : decode prog_9_method_8_code 35 = .ok (.istore_n 1, 1) := by decide +kernel
theorem dR_intrude_36 : decode prog_9_method_8_code 36 = .ok (.iconst 0, 1) := by decide +kernel
theorem dR_intrude_37 : decode prog_9_method_8_code 37 = .ok (.istore_n 2, 1) := by decide +kernel
theorem dR_intrude_38 : decode prog_9_method_8_code 38 = .ok (.iload_n 2, 1) := by decide +kernel
theorem dR_intrude_39 : decode prog_9_method_8_code 39 = .ok (.aload_n 0, 1) := by decide +kernel
theorem dR_intrude_40 : decode prog_9_method_8_code 40 = .ok (.getfield 158, 3) := by decide +kernel
theorem dR_intrude_43 : decode prog_9_method_8_code 43 = .ok (.if_icmp .ge 38, 3) := by decide +kernel
theorem dR_intrude_46 : decode prog_9_method_8_code 46 = .ok (.aload_n 0, 1) := by decide +kernel
theorem dR_intrude_47 : decode prog_9_method_8_code 47 = .ok (.getfield 23, 3) := by decide +kernel
theorem dR_intrude_50 : decode prog_9_method_8_code 50 = .ok (.iload_n 2, 1) := by decide +kernel
theorem dR_intrude_51 : decode prog_9_method_8_code 51 = .ok (.baload, 1) := by decide +kernel
theorem dR_intrude_52 : decode prog_9_method_8_code 52 = .ok (.ifCond .ne 23, 3) := by decide +kernel
theorem dR_intrude_55 : decode prog_9_method_8_code 55 = .ok (.aload_n 0, 1) := by decide +kernel
theorem dR_intrude_56 : decode prog_9_method_8_code 56 = .ok (.iload_n 2, 1) := by decide +kernel
theorem dR_intrude_57 : decode prog_9_method_8_code 57 = .ok (.invokevirtual 164, 3) := by decide +kernel
theorem dR_intrude_60 : decode prog_9_method_8_code 60 = .ok (.ifCond .ne 6, 3) := by decide +kernel
theorem dR_intrude_63 : decode prog_9_method_8_code 63 = .ok (.goto 12, 3) := by decide +kernel
end
section
theorem dR_intrude_66 : decode prog_9_method_8_code 66 = .ok (.aload_n 0, 1) := by decide +kernel
theorem dR_intrude_67 : decode prog_9_method_8_code 67 = .ok (.getfield 23, 3) := by decide +kernel
theorem dR_intrude_70 : decode prog_9_method_8_code 70 = .ok (.iload_n 2, 1) := by decide +kernel
theorem dR_intrude_71 : decode prog_9_method_8_code 71 = .ok (.iconst 1, 1) := by decide +kernel
theorem dR_intrude_72 : decode prog_9_method_8_code 72 = .ok (.bastore, 1) := by decide +kernel
theorem dR_intrude_73 : decode prog_9_method_8_code 73 = .ok (.iconst 1, 1) := by decide +kernel
theorem dR_intrude_74 : decode prog_9_method_8_code 74 = .ok (.istore_n 1, 1) := by decide +kernel
theorem dR_intrude_75 : decode prog_9_method_8_code 75 = .ok (.iinc 2 1, 3) := by decide +kernel
theorem dR_intrude_78 : decode prog_9_method_8_code 78 = .ok (.goto (-40), 3) := by decide +kernel
theorem dR_intrude_81 : decode prog_9_method_8_code 81 = .ok (.iconst 0, 1) := by decide +kernel
theorem dR_intrude_82 : decode prog_9_method_8_code 82 = .ok (.istore_n 2, 1) := by decide +kernel
theorem dR_intrude_83 : decode prog_9_method_8_code 83 = .ok (.iload_n 2, 1) := by decide +kernel
theorem dR_intrude_84 : decode prog_9_method_8_code 84 = .ok (.aload_n 0, 1) := by decide +kernel
theorem dR_intrude_85 : decode prog_9_method_8_code 85 = .ok (.getfield 161, 3) := by decide +kernel
theorem dR_intrude_88 : decode prog_9_method_8_code 88 = .ok (.if_icmp .ge 54, 3) := by decide +kernel
theorem dR_intrude_91 : decode prog_9_method_8_code 91 = .ok (.aload_n 0, 1) := by decide +kernel
theorem dR_intrude_92 : decode prog_9_method_8_code 92 = .ok (.getfield 23, 3) := by decide +kernel
theorem dR_intrude_95 : decode prog_9_method_8_code 95 = .ok (.aload_n 0, 1) := by decide +kernel
theorem dR_intrude_96 : decode prog_9_method_8_code 96 = .ok (.getfield 26, 3) := by decide +kernel
theorem dR_intrude_99 : decode prog_9_method_8_code 99 = .ok (.iload_n 2, 1) := by decide +kernel
theorem dR_intrude_100 : decode prog_9_method_8_code 100 = .ok (.iaload, 1) := by decide +kernel
theorem dR_intrude_101 : decode prog_9_method_8_code 101 = .ok (.baload, 1) := by decide +kernel
theorem dR_intrude_102 : decode prog_9_method_8_code 102 = .ok (.ifCond .eq 34, 3) := by decide +kernel
theorem dR_intrude_105 : decode prog_9_method_8_code 105 = .ok (.aload_n 0, 1) := by decide +kernel
theorem dR_intrude_106 : decode prog_9_method_8_code 106 = .ok (.getfield 23, 3) := by decide +kernel
theorem dR_intrude_109 : decode prog_9_method_8_code 109 = .ok (.aload_n 0, 1) := by decide +kernel
theorem dR_intrude_110 : decode prog_9_method_8_code 110 = .ok (.getfield 29, 3) := by decide +kernel
theorem dR_intrude_113 : decode prog_9_method_8_code 113 = .ok (.iload_n 2, 1) := by decide +kernel
theorem dR_intrude_114 : decode prog_9_method_8_code 114 = .ok (.iaload, 1) := by decide +kernel
theorem dR_intrude_115 : decode prog_9_method_8_code 115 = .ok (.baload, 1) := by decide +kernel
theorem dR_intrude_116 : decode prog_9_method_8_code 116 = .ok (.ifCond .eq 6, 3) := by decide +kernel
theorem dR_intrude_119 : decode prog_9_method_8_code 119 = .ok (.goto 17, 3) := by decide +kernel
theorem dR_intrude_122 : decode prog_9_method_8_code 122 = .ok (.aload_n 0, 1) := by decide +kernel
theorem dR_intrude_123 : decode prog_9_method_8_code 123 = .ok (.getfield 23, 3) := by decide +kernel
theorem dR_intrude_126 : decode prog_9_method_8_code 126 = .ok (.aload_n 0, 1) := by decide +kernel
theorem dR_intrude_127 : decode prog_9_method_8_code 127 = .ok (.getfield 29, 3) := by decide +kernel
theorem dR_intrude_130 : decode prog_9_method_8_code 130 = .ok (.iload_n 2, 1) := by decide +kernel
theorem dR_intrude_131 : decode prog_9_method_8_code 131 = .ok (.iaload, 1) := by decide +kernel
theorem dR_intrude_132 : decode prog_9_method_8_code 132 = .ok (.iconst 1, 1) := by decide +kernel
theorem dR_intrude_133 : decode prog_9_method_8_code 133 = .ok (.bastore, 1) := by decide +kernel
theorem dR_intrude_134 : decode prog_9_method_8_code 134 = .ok (.iconst 1, 1) := by decide +kernel
theorem dR_intrude_135 : decode prog_9_method_8_code 135 = .ok (.istore_n 1, 1) := by decide +kernel
theorem dR_intrude_136 : decode prog_9_method_8_code 136 = .ok (.iinc 2 1, 3) := by decide +kernel
theorem dR_intrude_139 : decode prog_9_method_8_code 139 = .ok (.goto (-56), 3) := by decide +kernel
theorem dR_intrude_142 : decode prog_9_method_8_code 142 = .ok (.goto (-112), 3) := by decide +kernel
theorem dR_intrude_145 : decode prog_9_method_8_code 145 = .ok (.return_, 1) := by decide +kernel
theorem dR_follows_0 : decode prog_9_method_7_code 0 = .ok (.aload_n 0, 1) := by decide +kernel
theorem dR_follows_1 : decode prog_9_method_7_code 1 = .ok (.getfield 7, 3) := by decide +kernel
theorem dR_follows_4 : decode prog_9_method_7_code 4 = .ok (.iload_n 1, 1) := by decide +kernel
theorem dR_follows_5 : decode prog_9_method_7_code 5 = .ok (.iaload, 1) := by decide +kernel
theorem dR_follows_6 : decode prog_9_method_7_code 6 = .ok (.tableswitch 72 0 4 #[34, 36, 72, 72, 38], 34) := by decide +kernel
theorem dR_follows_40 : decode prog_9_method_7_code 40 = .ok (.iconst 1, 1) := by decide +kernel
theorem dR_follows_41 : decode prog_9_method_7_code 41 = .ok (.ireturn, 1) := by decide +kernel
theorem dR_follows_42 : decode prog_9_method_7_code 42 = .ok (.iconst 0, 1) := by decide +kernel
theorem dR_follows_43 : decode prog_9_method_7_code 43 = .ok (.ireturn, 1) := by decide +kernel
theorem dR_follows_44 : decode prog_9_method_7_code 44 = .ok (.aload_n 0, 1) := by decide +kernel
theorem dR_follows_45 : decode prog_9_method_7_code 45 = .ok (.getfield 23, 3) := by decide +kernel
theorem dR_follows_48 : decode prog_9_method_7_code 48 = .ok (.aload_n 0, 1) := by decide +kernel
theorem dR_follows_49 : decode prog_9_method_7_code 49 = .ok (.getfield 13, 3) := by decide +kernel
theorem dR_follows_52 : decode prog_9_method_7_code 52 = .ok (.iload_n 1, 1) := by decide +kernel
theorem dR_follows_53 : decode prog_9_method_7_code 53 = .ok (.iaload, 1) := by decide +kernel
theorem dR_follows_54 : decode prog_9_method_7_code 54 = .ok (.baload, 1) := by decide +kernel
theorem dR_follows_55 : decode prog_9_method_7_code 55 = .ok (.ifCond .eq 21, 3) := by decide +kernel
theorem dR_follows_58 : decode prog_9_method_7_code 58 = .ok (.aload_n 0, 1) := by decide +kernel
theorem dR_follows_59 : decode prog_9_method_7_code 59 = .ok (.getfield 23, 3) := by decide +kernel
theorem dR_follows_62 : decode prog_9_method_7_code 62 = .ok (.aload_n 0, 1) := by decide +kernel
theorem dR_follows_63 : decode prog_9_method_7_code 63 = .ok (.getfield 16, 3) := by decide +kernel
theorem dR_follows_66 : decode prog_9_method_7_code 66 = .ok (.iload_n 1, 1) := by decide +kernel
theorem dR_follows_67 : decode prog_9_method_7_code 67 = .ok (.iaload, 1) := by decide +kernel
theorem dR_follows_68 : decode prog_9_method_7_code 68 = .ok (.baload, 1) := by decide +kernel
theorem dR_follows_69 : decode prog_9_method_7_code 69 = .ok (.ifCond .eq 7, 3) := by decide +kernel
theorem dR_follows_72 : decode prog_9_method_7_code 72 = .ok (.iconst 1, 1) := by decide +kernel
theorem dR_follows_73 : decode prog_9_method_7_code 73 = .ok (.goto 4, 3) := by decide +kernel
theorem dR_follows_76 : decode prog_9_method_7_code 76 = .ok (.iconst 0, 1) := by decide +kernel
theorem dR_follows_77 : decode prog_9_method_7_code 77 = .ok (.ireturn, 1) := by decide +kernel
theorem dR_follows_78 : decode prog_9_method_7_code 78 = .ok (.aload_n 0, 1) := by decide +kernel
theorem dR_follows_79 : decode prog_9_method_7_code 79 = .ok (.getfield 23, 3) := by decide +kernel
theorem dR_follows_82 : decode prog_9_method_7_code 82 = .ok (.aload_n 0, 1) := by decide +kernel
theorem dR_follows_83 : decode prog_9_method_7_code 83 = .ok (.getfield 13, 3) := by decide +kernel
theorem dR_follows_86 : decode prog_9_method_7_code 86 = .ok (.iload_n 1, 1) := by decide +kernel
theorem dR_follows_87 : decode prog_9_method_7_code 87 = .ok (.iaload, 1) := by decide +kernel
theorem dR_follows_88 : decode prog_9_method_7_code 88 = .ok (.baload, 1) := by decide +kernel
theorem dR_follows_89 : decode prog_9_method_7_code 89 = .ok (.ireturn, 1) := by decide +kernel
theorem dR_isOpen_0 : decode prog_9_method_58_code 0 = .ok (.aload_n 0, 1) := by decide +kernel
theorem dR_isOpen_1 : decode prog_9_method_58_code 1 = .ok (.iconst 0, 1) := by decide +kernel
theorem dR_isOpen_2 : decode prog_9_method_58_code 2 = .ok (.putfield 155, 3) := by decide +kernel
theorem dR_isOpen_5 : decode prog_9_method_58_code 5 = .ok (.iload_n 1, 1) := by decide +kernel
theorem dR_isOpen_6 : decode prog_9_method_58_code 6 = .ok (.aload_n 0, 1) := by decide +kernel
theorem dR_isOpen_7 : decode prog_9_method_58_code 7 = .ok (.getfield 151, 3) := by decide +kernel
theorem dR_isOpen_10 : decode prog_9_method_58_code 10 = .ok (.invokestatic 264, 3) := by decide +kernel
theorem dR_isOpen_13 : decode prog_9_method_58_code 13 = .ok (.ifCond .eq 30, 3) := by decide +kernel
theorem dR_isOpen_16 : decode prog_9_method_58_code 16 = .ok (.iload_n 2, 1) := by decide +kernel
theorem dR_isOpen_17 : decode prog_9_method_58_code 17 = .ok (.aload_n 0, 1) := by decide +kernel
theorem dR_isOpen_18 : decode prog_9_method_58_code 18 = .ok (.iload_n 1, 1) := by decide +kernel
theorem dR_isOpen_19 : decode prog_9_method_58_code 19 = .ok (.invokevirtual 192, 3) := by decide +kernel
theorem dR_isOpen_22 : decode prog_9_method_58_code 22 = .ok (.invokestatic 264, 3) := by decide +kernel
theorem dR_isOpen_25 : decode prog_9_method_58_code 25 = .ok (.ifCond .eq 18, 3) := by decide +kernel
theorem dR_isOpen_28 : decode prog_9_method_58_code 28 = .ok (.aload_n 0, 1) := by decide +kernel
theorem dR_isOpen_29 : decode prog_9_method_58_code 29 = .ok (.getfield 65, 3) := by decide +kernel
theorem dR_isOpen_32 : decode prog_9_method_58_code 32 = .ok (.bipush 31, 2) := by decide +kernel
theorem dR_isOpen_34 : decode prog_9_method_58_code 34 = .ok (.iload_n 1, 1) := by decide +kernel
theorem dR_isOpen_35 : decode prog_9_method_58_code 35 = .ok (.imul, 1) := by decide +kernel
theorem dR_isOpen_36 : decode prog_9_method_58_code 36 = .ok (.iload_n 2, 1) := by decide +kernel
theorem dR_isOpen_37 : decode prog_9_method_58_code 37 = .ok (.iadd, 1) := by decide +kernel
theorem dR_isOpen_38 : decode prog_9_method_58_code 38 = .ok (.iaload, 1) := by decide +kernel
theorem dR_isOpen_39 : decode prog_9_method_58_code 39 = .ok (.iconst (-1), 1) := by decide +kernel
theorem dR_isOpen_40 : decode prog_9_method_58_code 40 = .ok (.if_icmp .ne 5, 3) := by decide +kernel
theorem dR_isOpen_43 : decode prog_9_method_58_code 43 = .ok (.iconst 0, 1) := by decide +kernel
theorem dR_isOpen_44 : decode prog_9_method_58_code 44 = .ok (.ireturn, 1) := by decide +kernel
theorem dR_isOpen_45 : decode prog_9_method_58_code 45 = .ok (.aload_n 0, 1) := by decide +kernel
theorem dR_isOpen_46 : decode prog_9_method_58_code 46 = .ok (.invokevirtual 296, 3) := by decide +kernel
theorem dR_isOpen_49 : decode prog_9_method_58_code 49 = .ok (.aload_n 0, 1) := by decide +kernel
theorem dR_isOpen_50 : decode prog_9_method_58_code 50 = .ok (.getfield 23, 3) := by decide +kernel
theorem dR_isOpen_53 : decode prog_9_method_58_code 53 = .ok (.aload_n 0, 1) := by decide +kernel
theorem dR_isOpen_54 : decode prog_9_method_58_code 54 = .ok (.getfield 65, 3) := by decide +kernel
theorem dR_isOpen_57 : decode prog_9_method_58_code 57 = .ok (.bipush 31, 2) := by decide +kernel
theorem dR_isOpen_59 : decode prog_9_method_58_code 59 = .ok (.iload_n 1, 1) := by decide +kernel
theorem dR_isOpen_60 : decode prog_9_method_58_code 60 = .ok (.imul, 1) := by decide +kernel
theorem dR_isOpen_61 : decode prog_9_method_58_code 61 = .ok (.iload_n 2, 1) := by decide +kernel
theorem dR_isOpen_62 : decode prog_9_method_58_code 62 = .ok (.iadd, 1) := by decide +kernel
theorem dR_isOpen_63 : decode prog_9_method_58_code 63 = .ok (.iaload, 1) := by decide +kernel
theorem dR_isOpen_64 : decode prog_9_method_58_code 64 = .ok (.baload, 1) := by decide +kernel
theorem dR_isOpen_65 : decode prog_9_method_58_code 65 = .ok (.ireturn, 1) := by decide +kernel
theorem dR_known_0 : decode prog_9_method_59_code 0 = .ok (.aload_n 0, 1) := by decide +kernel
theorem dR_known_1 : decode prog_9_method_59_code 1 = .ok (.iconst 0, 1) := by decide +kernel
theorem dR_known_2 : decode prog_9_method_59_code 2 = .ok (.putfield 155, 3) := by decide +kernel
theorem dR_known_5 : decode prog_9_method_59_code 5 = .ok (.aload_n 0, 1) := by decide +kernel
theorem dR_known_6 : decode prog_9_method_59_code 6 = .ok (.invokevirtual 296, 3) := by decide +kernel
theorem dR_known_9 : decode prog_9_method_59_code 9 = .ok (.iconst 0, 1) := by decide +kernel
theorem dR_known_10 : decode prog_9_method_59_code 10 = .ok (.istore_n 1, 1) := by decide +kernel
theorem dR_known_11 : decode prog_9_method_59_code 11 = .ok (.iconst 0, 1) := by decide +kernel
theorem dR_known_12 : decode prog_9_method_59_code 12 = .ok (.istore_n 2, 1) := by decide +kernel
theorem dR_known_13 : decode prog_9_method_59_code 13 = .ok (.iload_n 2, 1) := by decide +kernel
theorem dR_known_14 : decode prog_9_method_59_code 14 = .ok (.aload_n 0, 1) := by decide +kernel
theorem dR_known_15 : decode prog_9_method_59_code 15 = .ok (.getfield 151, 3) := by decide +kernel
theorem dR_known_18 : decode prog_9_method_59_code 18 = .ok (.if_icmp .ge 31, 3) := by decide +kernel
theorem dR_known_21 : decode prog_9_method_59_code 21 = .ok (.iload_n 1, 1) := by decide +kernel
theorem dR_known_22 : decode prog_9_method_59_code 22 = .ok (.aload_n 0, 1) := by decide +kernel
theorem dR_known_23 : decode prog_9_method_59_code 23 = .ok (.getfield 23, 3) := by decide +kernel
theorem dR_known_26 : decode prog_9_method_59_code 26 = .ok (.aload_n 0, 1) := by decide +kernel
theorem dR_known_27 : decode prog_9_method_59_code 27 = .ok (.getfield 41, 3) := by decide +kernel
theorem dR_known_30 : decode prog_9_method_59_code 30 = .ok (.iload_n 2, 1) := by decide +kernel
theorem dR_known_31 : decode prog_9_method_59_code 31 = .ok (.iaload, 1) := by decide +kernel
theorem dR_known_32 : decode prog_9_method_59_code 32 = .ok (.baload, 1) := by decide +kernel
theorem dR_known_33 : decode prog_9_method_59_code 33 = .ok (.ifCond .eq 7, 3) := by decide +kernel
theorem dR_known_36 : decode prog_9_method_59_code 36 = .ok (.iconst 1, 1) := by decide +kernel
theorem dR_known_37 : decode prog_9_method_59_code 37 = .ok (.goto 4, 3) := by decide +kernel
theorem dR_known_40 : decode prog_9_method_59_code 40 = .ok (.iconst 0, 1) := by decide +kernel
theorem dR_known_41 : decode prog_9_method_59_code 41 = .ok (.iadd, 1) := by decide +kernel
theorem dR_known_42 : decode prog_9_method_59_code 42 = .ok (.istore_n 1, 1) := by decide +kernel
theorem dR_known_43 : decode prog_9_method_59_code 43 = .ok (.iinc 2 1, 3) := by decide +kernel
theorem dR_known_46 : decode prog_9_method_59_code 46 = .ok (.goto (-33), 3) := by decide +kernel
theorem dR_known_49 : decode prog_9_method_59_code 49 = .ok (.iload_n 1, 1) := by decide +kernel
theorem dR_known_50 : decode prog_9_method_59_code 50 = .ok (.ireturn, 1) := by decide +kernel
end
section
theorem dL_offer_0 : decode method_3_code 0 = .ok (.aload_n 2, 1) := by decide +kernel
theorem dL_offer_1 : decode method_3_code 1 = .ok (.iconst 0, 1) := by decide +kernel
theorem dL_offer_2 : decode method_3_code 2 = .ok (.aload_n 0, 1) := by decide +kernel
theorem dL_offer_3 : decode method_3_code 3 = .ok (.iload_n 1, 1) := by decide +kernel
theorem dL_offer_4 : decode method_3_code 4 = .ok (.invokevirtual 7, 3) := by decide +kernel
theorem dL_offer_7 : decode method_3_code 7 = .ok (.i2l, 1) := by decide +kernel
theorem dL_offer_8 : decode method_3_code 8 = .ok (.lastore, 1) := by decide +kernel
theorem dL_offer_9 : decode method_3_code 9 = .ok (.goto 9, 3) := by decide +kernel
theorem dL_offer_12 : decode method_3_code 12 = .ok (.astore_n 3, 1) := by decide +kernel
theorem dL_offer_13 : decode method_3_code 13 = .ok (.iconst 1, 1) := by decide +kernel
theorem dL_offer_14 : decode method_3_code 14 = .ok (.ireturn, 1) := by decide +kernel
theorem dL_offer_15 : decode method_3_code 15 = .ok (.astore_n 3, 1) := by decide +kernel
theorem dL_offer_16 : decode method_3_code 16 = .ok (.iconst 2, 1) := by decide +kernel
theorem dL_offer_17 : decode method_3_code 17 = .ok (.ireturn, 1) := by decide +kernel
theorem dL_offer_18 : decode method_3_code 18 = .ok (.iconst 0, 1) := by decide +kernel
theorem dL_offer_19 : decode method_3_code 19 = .ok (.ireturn, 1) := by decide +kernel
theorem dL_add_0 : decode method_4_code 0 = .ok (.aload_n 3, 1) := by decide +kernel
theorem dL_add_1 : decode method_4_code 1 = .ok (.iconst 0, 1) := by decide +kernel
theorem dL_add_2 : decode method_4_code 2 = .ok (.aload_n 0, 1) := by decide +kernel
theorem dL_add_3 : decode method_4_code 3 = .ok (.iload_n 1, 1) := by decide +kernel
theorem dL_add_4 : decode method_4_code 4 = .ok (.iload_n 2, 1) := by decide +kernel
theorem dL_add_5 : decode method_4_code 5 = .ok (.invokevirtual 17, 3) := by decide +kernel
theorem dL_add_8 : decode method_4_code 8 = .ok (.i2l, 1) := by decide +kernel
theorem dL_add_9 : decode method_4_code 9 = .ok (.lastore, 1) := by decide +kernel
theorem dL_add_10 : decode method_4_code 10 = .ok (.goto 11, 3) := by decide +kernel
theorem dL_add_13 : decode method_4_code 13 = .ok (.astore 4, 2) := by decide +kernel
theorem dL_add_15 : decode method_4_code 15 = .ok (.iconst 1, 1) := by decide +kernel
theorem dL_add_16 : decode method_4_code 16 = .ok (.ireturn, 1) := by decide +kernel
theorem dL_add_17 : decode method_4_code 17 = .ok (.astore 4, 2) := by decide +kernel
theorem dL_add_19 : decode method_4_code 19 = .ok (.iconst 2, 1) := by decide +kernel
theorem dL_add_20 : decode method_4_code 20 = .ok (.ireturn, 1) := by decide +kernel
theorem dL_add_21 : decode method_4_code 21 = .ok (.iconst 0, 1) := by decide +kernel
theorem dL_add_22 : decode method_4_code 22 = .ok (.ireturn, 1) := by decide +kernel
theorem dL_remove_0 : decode method_5_code 0 = .ok (.aload_n 3, 1) := by decide +kernel
theorem dL_remove_1 : decode method_5_code 1 = .ok (.iconst 0, 1) := by decide +kernel
theorem dL_remove_2 : decode method_5_code 2 = .ok (.aload_n 0, 1) := by decide +kernel
theorem dL_remove_3 : decode method_5_code 3 = .ok (.iload_n 1, 1) := by decide +kernel
theorem dL_remove_4 : decode method_5_code 4 = .ok (.iload_n 2, 1) := by decide +kernel
theorem dL_remove_5 : decode method_5_code 5 = .ok (.invokevirtual 21, 3) := by decide +kernel
theorem dL_remove_8 : decode method_5_code 8 = .ok (.i2l, 1) := by decide +kernel
theorem dL_remove_9 : decode method_5_code 9 = .ok (.lastore, 1) := by decide +kernel
theorem dL_remove_10 : decode method_5_code 10 = .ok (.goto 11, 3) := by decide +kernel
theorem dL_remove_13 : decode method_5_code 13 = .ok (.astore 4, 2) := by decide +kernel
theorem dL_remove_15 : decode method_5_code 15 = .ok (.iconst 1, 1) := by decide +kernel
theorem dL_remove_16 : decode method_5_code 16 = .ok (.ireturn, 1) := by decide +kernel
theorem dL_remove_17 : decode method_5_code 17 = .ok (.astore 4, 2) := by decide +kernel
theorem dL_remove_19 : decode method_5_code 19 = .ok (.iconst 2, 1) := by decide +kernel
theorem dL_remove_20 : decode method_5_code 20 = .ok (.ireturn, 1) := by decide +kernel
theorem dL_remove_21 : decode method_5_code 21 = .ok (.iconst 0, 1) := by decide +kernel
theorem dL_remove_22 : decode method_5_code 22 = .ok (.ireturn, 1) := by decide +kernel
theorem dL_update_0 : decode method_6_code 0 = .ok (.aload_n 2, 1) := by decide +kernel
theorem dL_update_1 : decode method_6_code 1 = .ok (.iconst 0, 1) := by decide +kernel
theorem dL_update_2 : decode method_6_code 2 = .ok (.aload_n 0, 1) := by decide +kernel
theorem dL_update_3 : decode method_6_code 3 = .ok (.iload_n 1, 1) := by decide +kernel
theorem dL_update_4 : decode method_6_code 4 = .ok (.invokevirtual 24, 3) := by decide +kernel
theorem dL_update_7 : decode method_6_code 7 = .ok (.i2l, 1) := by decide +kernel
theorem dL_update_8 : decode method_6_code 8 = .ok (.lastore, 1) := by decide +kernel
theorem dL_update_9 : decode method_6_code 9 = .ok (.goto 9, 3) := by decide +kernel
theorem dL_update_12 : decode method_6_code 12 = .ok (.astore_n 3, 1) := by decide +kernel
theorem dL_update_13 : decode method_6_code 13 = .ok (.iconst 1, 1) := by decide +kernel
theorem dL_update_14 : decode method_6_code 14 = .ok (.ireturn, 1) := by decide +kernel
theorem dL_update_15 : decode method_6_code 15 = .ok (.astore_n 3, 1) := by decide +kernel
theorem dL_update_16 : decode method_6_code 16 = .ok (.iconst 2, 1) := by decide +kernel
theorem dL_update_17 : decode method_6_code 17 = .ok (.ireturn, 1) := by decide +kernel
theorem dL_update_18 : decode method_6_code 18 = .ok (.iconst 0, 1) := by decide +kernel
theorem dL_update_19 : decode method_6_code 19 = .ok (.ireturn, 1) := by decide +kernel
theorem dL_commit_0 : decode method_7_code 0 = .ok (.aload_n 3, 1) := by decide +kernel
theorem dL_commit_1 : decode method_7_code 1 = .ok (.iconst 0, 1) := by decide +kernel
theorem dL_commit_2 : decode method_7_code 2 = .ok (.aload_n 0, 1) := by decide +kernel
theorem dL_commit_3 : decode method_7_code 3 = .ok (.iload_n 1, 1) := by decide +kernel
theorem dL_commit_4 : decode method_7_code 4 = .ok (.iload_n 2, 1) := by decide +kernel
theorem dL_commit_5 : decode method_7_code 5 = .ok (.invokevirtual 27, 3) := by decide +kernel
theorem dL_commit_8 : decode method_7_code 8 = .ok (.i2l, 1) := by decide +kernel
theorem dL_commit_9 : decode method_7_code 9 = .ok (.lastore, 1) := by decide +kernel
theorem dL_commit_10 : decode method_7_code 10 = .ok (.goto 11, 3) := by decide +kernel
theorem dL_commit_13 : decode method_7_code 13 = .ok (.astore 4, 2) := by decide +kernel
theorem dL_commit_15 : decode method_7_code 15 = .ok (.iconst 1, 1) := by decide +kernel
theorem dL_commit_16 : decode method_7_code 16 = .ok (.ireturn, 1) := by decide +kernel
theorem dL_commit_17 : decode method_7_code 17 = .ok (.astore 4, 2) := by decide +kernel
theorem dL_commit_19 : decode method_7_code 19 = .ok (.iconst 2, 1) := by decide +kernel
theorem dL_commit_20 : decode method_7_code 20 = .ok (.ireturn, 1) := by decide +kernel
theorem dL_commit_21 : decode method_7_code 21 = .ok (.iconst 0, 1) := by decide +kernel
theorem dL_commit_22 : decode method_7_code 22 = .ok (.ireturn, 1) := by decide +kernel
theorem dL_come_0 : decode method_8_code 0 = .ok (.aload_n 2, 1) := by decide +kernel
theorem dL_come_1 : decode method_8_code 1 = .ok (.iconst 0, 1) := by decide +kernel
theorem dL_come_2 : decode method_8_code 2 = .ok (.aload_n 0, 1) := by decide +kernel
theorem dL_come_3 : decode method_8_code 3 = .ok (.iload_n 1, 1) := by decide +kernel
theorem dL_come_4 : decode method_8_code 4 = .ok (.invokevirtual 31, 3) := by decide +kernel
theorem dL_come_7 : decode method_8_code 7 = .ok (.i2l, 1) := by decide +kernel
theorem dL_come_8 : decode method_8_code 8 = .ok (.lastore, 1) := by decide +kernel
theorem dL_come_9 : decode method_8_code 9 = .ok (.goto 9, 3) := by decide +kernel
theorem dL_come_12 : decode method_8_code 12 = .ok (.astore_n 3, 1) := by decide +kernel
theorem dL_come_13 : decode method_8_code 13 = .ok (.iconst 1, 1) := by decide +kernel
theorem dL_come_14 : decode method_8_code 14 = .ok (.ireturn, 1) := by decide +kernel
theorem dL_come_15 : decode method_8_code 15 = .ok (.astore_n 3, 1) := by decide +kernel
theorem dL_come_16 : decode method_8_code 16 = .ok (.iconst 2, 1) := by decide +kernel
theorem dL_come_17 : decode method_8_code 17 = .ok (.ireturn, 1) := by decide +kernel
theorem dL_come_18 : decode method_8_code 18 = .ok (.iconst 0, 1) := by decide +kernel
theorem dL_come_19 : decode method_8_code 19 = .ok (.ireturn, 1) := by decide +kernel
theorem dL_compromise_0 : decode method_9_code 0 = .ok (.aload_n 2, 1) := by decide +kernel
theorem dL_compromise_1 : decode method_9_code 1 = .ok (.iconst 0, 1) := by decide +kernel
theorem dL_compromise_2 : decode method_9_code 2 = .ok (.aload_n 0, 1) := by decide +kernel
theorem dL_compromise_3 : decode method_9_code 3 = .ok (.iload_n 1, 1) := by decide +kernel
theorem dL_compromise_4 : decode method_9_code 4 = .ok (.invokevirtual 34, 3) := by decide +kernel
theorem dL_compromise_7 : decode method_9_code 7 = .ok (.i2l, 1) := by decide +kernel
theorem dL_compromise_8 : decode method_9_code 8 = .ok (.lastore, 1) := by decide +kernel
theorem dL_compromise_9 : decode method_9_code 9 = .ok (.goto 6, 3) := by decide +kernel
theorem dL_compromise_12 : decode method_9_code 12 = .ok (.astore_n 3, 1) := by decide +kernel
theorem dL_compromise_13 : decode method_9_code 13 = .ok (.iconst 1, 1) := by decide +kernel
theorem dL_compromise_14 : decode method_9_code 14 = .ok (.ireturn, 1) := by decide +kernel
theorem dL_compromise_15 : decode method_9_code 15 = .ok (.iconst 0, 1) := by decide +kernel
theorem dL_compromise_16 : decode method_9_code 16 = .ok (.ireturn, 1) := by decide +kernel
theorem dL_law_0 : decode code 0 = .ok (.new 8, 3) := by decide +kernel
theorem dL_law_3 : decode code 3 = .ok (.dup, 1) := by decide +kernel
theorem dL_law_4 : decode code 4 = .ok (.invokespecial 37, 3) := by decide +kernel
theorem dL_law_7 : decode code 7 = .ok (.astore_n 1, 1) := by decide +kernel
theorem dL_law_8 : decode code 8 = .ok (.new 38, 3) := by decide +kernel
theorem dL_law_11 : decode code 11 = .ok (.dup, 1) := by decide +kernel
theorem dL_law_12 : decode code 12 = .ok (.invokespecial 40, 3) := by decide +kernel
theorem dL_law_15 : decode code 15 = .ok (.astore_n 2, 1) := by decide +kernel
theorem dL_law_16 : decode code 16 = .ok (.iconst 1, 1) := by decide +kernel
theorem dL_law_17 : decode code 17 = .ok (.newarray .long, 2) := by decide +kernel
theorem dL_law_19 : decode code 19 = .ok (.astore_n 3, 1) := by decide +kernel
theorem dL_law_20 : decode code 20 = .ok (.iconst 0, 1) := by decide +kernel
theorem dL_law_21 : decode code 21 = .ok (.istore 4, 2) := by decide +kernel
theorem dL_law_23 : decode code 23 = .ok (.iload 4, 2) := by decide +kernel
theorem dL_law_25 : decode code 25 = .ok (.aload_n 0, 1) := by decide +kernel
theorem dL_law_26 : decode code 26 = .ok (.arraylength, 1) := by decide +kernel
theorem dL_law_27 : decode code 27 = .ok (.iconst 4, 1) := by decide +kernel
theorem dL_law_28 : decode code 28 = .ok (.isub, 1) := by decide +kernel
theorem dL_law_29 : decode code 29 = .ok (.if_icmp .gt 827, 3) := by decide +kernel
theorem dL_law_32 : decode code 32 = .ok (.aload_n 0, 1) := by decide +kernel
theorem dL_law_33 : decode code 33 = .ok (.iload 4, 2) := by decide +kernel
theorem dL_law_35 : decode code 35 = .ok (.iaload, 1) := by decide +kernel
theorem dL_law_36 : decode code 36 = .ok (.bipush 31, 2) := by decide +kernel
theorem dL_law_38 : decode code 38 = .ok (.iand, 1) := by decide +kernel
theorem dL_law_39 : decode code 39 = .ok (.tableswitch 811 0 16 #[81, 137, 205, 273, 329, 413, 469, 525, 562, 599, 624, 673, 710, 723, 736, 761, 798], 81) := by decide +kernel
theorem dL_law_120 : decode code 120 = .ok (.aload_n 1, 1) := by decide +kernel
theorem dL_law_121 : decode code 121 = .ok (.aload_n 0, 1) := by decide +kernel
theorem dL_law_122 : decode code 122 = .ok (.iload 4, 2) := by decide +kernel
theorem dL_law_124 : decode code 124 = .ok (.iconst 1, 1) := by decide +kernel
theorem dL_law_125 : decode code 125 = .ok (.iadd, 1) := by decide +kernel
theorem dL_law_126 : decode code 126 = .ok (.iaload, 1) := by decide +kernel
theorem dL_law_127 : decode code 127 = .ok (.aload_n 3, 1) := by decide +kernel
theorem dL_law_128 : decode code 128 = .ok (.invokestatic 41, 3) := by decide +kernel
theorem dL_law_131 : decode code 131 = .ok (.istore 5, 2) := by decide +kernel
theorem dL_law_133 : decode code 133 = .ok (.aload_n 2, 1) := by decide +kernel
theorem dL_law_134 : decode code 134 = .ok (.aload_n 0, 1) := by decide +kernel
theorem dL_law_135 : decode code 135 = .ok (.iload 4, 2) := by decide +kernel
theorem dL_law_137 : decode code 137 = .ok (.iconst 1, 1) := by decide +kernel
theorem dL_law_138 : decode code 138 = .ok (.iadd, 1) := by decide +kernel
theorem dL_law_139 : decode code 139 = .ok (.iaload, 1) := by decide +kernel
theorem dL_law_140 : decode code 140 = .ok (.invokevirtual 46, 3) := by decide +kernel
theorem dL_law_143 : decode code 143 = .ok (.istore 6, 2) := by decide +kernel
theorem dL_law_145 : decode code 145 = .ok (.aload_n 2, 1) := by decide +kernel
theorem dL_law_146 : decode code 146 = .ok (.invokevirtual 47, 3) := by decide +kernel
theorem dL_law_149 : decode code 149 = .ok (.iload 5, 2) := by decide +kernel
theorem dL_law_151 : decode code 151 = .ok (.if_icmp .eq 5, 3) := by decide +kernel
theorem dL_law_154 : decode code 154 = .ok (.iconst 0, 1) := by decide +kernel
theorem dL_law_155 : decode code 155 = .ok (.ireturn, 1) := by decide +kernel
theorem dL_law_156 : decode code 156 = .ok (.iload 5, 2) := by decide +kernel
theorem dL_law_158 : decode code 158 = .ok (.ifCond .ne 15, 3) := by decide +kernel
theorem dL_law_161 : decode code 161 = .ok (.aload_n 3, 1) := by decide +kernel
theorem dL_law_162 : decode code 162 = .ok (.iconst 0, 1) := by decide +kernel
theorem dL_law_163 : decode code 163 = .ok (.laload, 1) := by decide +kernel
theorem dL_law_164 : decode code 164 = .ok (.iload 6, 2) := by decide +kernel
theorem dL_law_166 : decode code 166 = .ok (.i2l, 1) := by decide +kernel
theorem dL_law_167 : decode code 167 = .ok (.lcmp, 1) := by decide +kernel
theorem dL_law_168 : decode code 168 = .ok (.ifCond .eq 5, 3) := by decide +kernel
theorem dL_law_171 : decode code 171 = .ok (.iconst 0, 1) := by decide +kernel
theorem dL_law_172 : decode code 172 = .ok (.ireturn, 1) := by decide +kernel
theorem dL_law_173 : decode code 173 = .ok (.goto 677, 3) := by decide +kernel
theorem dL_law_176 : decode code 176 = .ok (.aload_n 1, 1) := by decide +kernel
theorem dL_law_177 : decode code 177 = .ok (.aload_n 0, 1) := by decide +kernel
theorem dL_law_178 : decode code 178 = .ok (.iload 4, 2) := by decide +kernel
theorem dL_law_180 : decode code 180 = .ok (.iconst 1, 1) := by decide +kernel
theorem dL_law_181 : decode code 181 = .ok (.iadd, 1) := by decide +kernel
theorem dL_law_182 : decode code 182 = .ok (.iaload, 1) := by decide +kernel
theorem dL_law_183 : decode code 183 = .ok (.aload_n 0, 1) := by decide +kernel
theorem dL_law_184 : decode code 184 = .ok (.iload 4, 2) := by decide +kernel
theorem dL_law_186 : decode code 186 = .ok (.iconst 2, 1) := by decide +kernel
theorem dL_law_187 : decode code 187 = .ok (.iadd, 1) := by decide +kernel
theorem dL_law_188 : decode code 188 = .ok (.iaload, 1) := by decide +kernel
theorem dL_law_189 : decode code 189 = .ok (.aload_n 3, 1) := by decide +kernel
theorem dL_law_190 : decode code 190 = .ok (.invokestatic 51, 3) := by decide +kernel
theorem dL_law_193 : decode code 193 = .ok (.istore 5, 2) := by decide +kernel
theorem dL_law_195 : decode code 195 = .ok (.aload_n 2, 1) := by decide +kernel
theorem dL_law_196 : decode code 196 = .ok (.aload_n 0, 1) := by decide +kernel
theorem dL_law_197 : decode code 197 = .ok (.iload 4, 2) := by decide +kernel
theorem dL_law_199 : decode code 199 = .ok (.iconst 1, 1) := by decide +kernel
theorem dL_law_200 : decode code 200 = .ok (.iadd, 1) := by decide +kernel
theorem dL_law_201 : decode code 201 = .ok (.iaload, 1) := by decide +kernel
theorem dL_law_202 : decode code 202 = .ok (.aload_n 0, 1) := by decide +kernel
theorem dL_law_203 : decode code 203 = .ok (.iload 4, 2) := by decide +kernel
theorem dL_law_205 : decode code 205 = .ok (.iconst 2, 1) := by decide +kernel
theorem dL_law_206 : decode code 206 = .ok (.iadd, 1) := by decide +kernel
theorem dL_law_207 : decode code 207 = .ok (.iaload, 1) := by decide +kernel
theorem dL_law_208 : decode code 208 = .ok (.invokevirtual 54, 3) := by decide +kernel
theorem dL_law_211 : decode code 211 = .ok (.istore 6, 2) := by decide +kernel
theorem dL_law_213 : decode code 213 = .ok (.aload_n 2, 1) := by decide +kernel
theorem dL_law_214 : decode code 214 = .ok (.invokevirtual 47, 3) := by decide +kernel
theorem dL_law_217 : decode code 217 = .ok (.iload 5, 2) := by decide +kernel
theorem dL_law_219 : decode code 219 = .ok (.if_icmp .eq 5, 3) := by decide +kernel
theorem dL_law_222 : decode code 222 = .ok (.iconst 0, 1) := by decide +kernel
theorem dL_law_223 : decode code 223 = .ok (.ireturn, 1) := by decide +kernel
theorem dL_law_224 : decode code 224 = .ok (.iload 5, 2) := by decide +kernel
theorem dL_law_226 : decode code 226 = .ok (.ifCond .ne 15, 3) := by decide +kernel
theorem dL_law_229 : decode code 229 = .ok (.aload_n 3, 1) := by decide +kernel
theorem dL_law_230 : decode code 230 = .ok (.iconst 0, 1) := by decide +kernel
theorem dL_law_231 : decode code 231 = .ok (.laload, 1) := by decide +kernel
theorem dL_law_232 : decode code 232 = .ok (.iload 6, 2) := by decide +kernel
theorem dL_law_234 : decode code 234 = .ok (.i2l, 1) := by decide +kernel
theorem dL_law_235 : decode code 235 = .ok (.lcmp, 1) := by decide +kernel
theorem dL_law_236 : decode code 236 = .ok (.ifCond .eq 5, 3) := by decide +kernel
theorem dL_law_239 : decode code 239 = .ok (.iconst 0, 1) := by decide +kernel
theorem dL_law_240 : decode code 240 = .ok (.ireturn, 1) := by decide +kernel
theorem dL_law_241 : decode code 241 = .ok (.goto 609, 3) := by decide +kernel
theorem dL_law_244 : decode code 244 = .ok (.aload_n 1, 1) := by decide +kernel
theorem dL_law_245 : decode code 245 = .ok (.aload_n 0, 1) := by decide +kernel
theorem dL_law_246 : decode code 246 = .ok (.iload 4, 2) := by decide +kernel
theorem dL_law_248 : decode code 248 = .ok (.iconst 1, 1) := by decide +kernel
theorem dL_law_249 : decode code 249 = .ok (.iadd, 1) := by decide +kernel
theorem dL_law_250 : decode code 250 = .ok (.iaload, 1) := by decide +kernel
theorem dL_law_251 : decode code 251 = .ok (.aload_n 0, 1) := by decide +kernel
theorem dL_law_252 : decode code 252 = .ok (.iload 4, 2) := by decide +kernel
theorem dL_law_254 : decode code 254 = .ok (.iconst 2, 1) := by decide +kernel
theorem dL_law_255 : decode code 255 = .ok (.iadd, 1) := by decide +kernel
theorem dL_law_256 : decode code 256 = .ok (.iaload, 1) := by decide +kernel
theorem dL_law_257 : decode code 257 = .ok (.aload_n 3, 1) := by decide +kernel
theorem dL_law_258 : decode code 258 = .ok (.invokestatic 55, 3) := by decide +kernel
theorem dL_law_261 : decode code 261 = .ok (.istore 5, 2) := by decide +kernel
theorem dL_law_263 : decode code 263 = .ok (.aload_n 2, 1) := by decide +kernel
theorem dL_law_264 : decode code 264 = .ok (.aload_n 0, 1) := by decide +kernel
theorem dL_law_265 : decode code 265 = .ok (.iload 4, 2) := by decide +kernel
theorem dL_law_267 : decode code 267 = .ok (.iconst 1, 1) := by decide +kernel
theorem dL_law_268 : decode code 268 = .ok (.iadd, 1) := by decide +kernel
theorem dL_law_269 : decode code 269 = .ok (.iaload, 1) := by decide +kernel
theorem dL_law_270 : decode code 270 = .ok (.aload_n 0, 1) := by decide +kernel
theorem dL_law_271 : decode code 271 = .ok (.iload 4, 2) := by decide +kernel
theorem dL_law_273 : decode code 273 = .ok (.iconst 2, 1) := by decide +kernel
theorem dL_law_274 : decode code 274 = .ok (.iadd, 1) := by decide +kernel
theorem dL_law_275 : decode code 275 = .ok (.iaload, 1) := by decide +kernel
theorem dL_law_276 : decode code 276 = .ok (.invokevirtual 57, 3) := by decide +kernel
theorem dL_law_279 : decode code 279 = .ok (.istore 6, 2) := by decide +kernel
theorem dL_law_281 : decode code 281 = .ok (.aload_n 2, 1) := by decide +kernel
theorem dL_law_282 : decode code 282 = .ok (.invokevirtual 47, 3) := by decide +kernel
theorem dL_law_285 : decode code 285 = .ok (.iload 5, 2) := by decide +kernel
theorem dL_law_287 : decode code 287 = .ok (.if_icmp .eq 5, 3) := by decide +kernel
theorem dL_law_290 : decode code 290 = .ok (.iconst 0, 1) := by decide +kernel
theorem dL_law_291 : decode code 291 = .ok (.ireturn, 1) := by decide +kernel
theorem dL_law_292 : decode code 292 = .ok (.iload 5, 2) := by decide +kernel
theorem dL_law_294 : decode code 294 = .ok (.ifCond .ne 15, 3) := by decide +kernel
theorem dL_law_297 : decode code 297 = .ok (.aload_n 3, 1) := by decide +kernel
theorem dL_law_298 : decode code 298 = .ok (.iconst 0, 1) := by decide +kernel
theorem dL_law_299 : decode code 299 = .ok (.laload, 1) := by decide +kernel
theorem dL_law_300 : decode code 300 = .ok (.iload 6, 2) := by decide +kernel
theorem dL_law_302 : decode code 302 = .ok (.i2l, 1) := by decide +kernel
theorem dL_law_303 : decode code 303 = .ok (.lcmp, 1) := by decide +kernel
theorem dL_law_304 : decode code 304 = .ok (.ifCond .eq 5, 3) := by decide +kernel
theorem dL_law_307 : decode code 307 = .ok (.iconst 0, 1) := by decide +kernel
theorem dL_law_308 : decode code 308 = .ok (.ireturn, 1) := by decide +kernel
theorem dL_law_309 : decode code 309 = .ok (.goto 541, 3) := by decide +kernel
theorem dL_law_312 : decode code 312 = .ok (.aload_n 1, 1) := by decide +kernel
theorem dL_law_313 : decode code 313 = .ok (.aload_n 0, 1) := by decide +kernel
theorem dL_law_314 : decode code 314 = .ok (.iload 4, 2) := by decide +kernel
theorem dL_law_316 : decode code 316 = .ok (.iconst 1, 1) := by decide +kernel
theorem dL_law_317 : decode code 317 = .ok (.iadd, 1) := by decide +kernel
theorem dL_law_318 : decode code 318 = .ok (.iaload, 1) := by decide +kernel
theorem dL_law_319 : decode code 319 = .ok (.aload_n 3, 1) := by decide +kernel
theorem dL_law_320 : decode code 320 = .ok (.invokestatic 58, 3) := by decide +kernel
theorem dL_law_323 : decode code 323 = .ok (.istore 5, 2) := by decide +kernel
theorem dL_law_325 : decode code 325 = .ok (.aload_n 2, 1) := by decide +kernel
theorem dL_law_326 : decode code 326 = .ok (.aload_n 0, 1) := by decide +kernel
theorem dL_law_327 : decode code 327 = .ok (.iload 4, 2) := by decide +kernel
theorem dL_law_329 : decode code 329 = .ok (.iconst 1, 1) := by decide +kernel
theorem dL_law_330 : decode code 330 = .ok (.iadd, 1) := by decide +kernel
theorem dL_law_331 : decode code 331 = .ok (.iaload, 1) := by decide +kernel
theorem dL_law_332 : decode code 332 = .ok (.invokevirtual 60, 3) := by decide +kernel
theorem dL_law_335 : decode code 335 = .ok (.istore 6, 2) := by decide +kernel
theorem dL_law_337 : decode code 337 = .ok (.aload_n 2, 1) := by decide +kernel
theorem dL_law_338 : decode code 338 = .ok (.invokevirtual 47, 3) := by decide +kernel
theorem dL_law_341 : decode code 341 = .ok (.iload 5, 2) := by decide +kernel
theorem dL_law_343 : decode code 343 = .ok (.if_icmp .eq 5, 3) := by decide +kernel
theorem dL_law_346 : decode code 346 = .ok (.iconst 0, 1) := by decide +kernel
theorem dL_law_347 : decode code 347 = .ok (.ireturn, 1) := by decide +kernel
theorem dL_law_348 : decode code 348 = .ok (.iload 5, 2) := by decide +kernel
theorem dL_law_350 : decode code 350 = .ok (.ifCond .ne 15, 3) := by decide +kernel
theorem dL_law_353 : decode code 353 = .ok (.aload_n 3, 1) := by decide +kernel
theorem dL_law_354 : decode code 354 = .ok (.iconst 0, 1) := by decide +kernel
theorem dL_law_355 : decode code 355 = .ok (.laload, 1) := by decide +kernel
theorem dL_law_356 : decode code 356 = .ok (.iload 6, 2) := by decide +kernel
theorem dL_law_358 : decode code 358 = .ok (.i2l, 1) := by decide +kernel
theorem dL_law_359 : decode code 359 = .ok (.lcmp, 1) := by decide +kernel
theorem dL_law_360 : decode code 360 = .ok (.ifCond .eq 5, 3) := by decide +kernel
theorem dL_law_363 : decode code 363 = .ok (.iconst 0, 1) := by decide +kernel
theorem dL_law_364 : decode code 364 = .ok (.ireturn, 1) := by decide +kernel
theorem dL_law_365 : decode code 365 = .ok (.goto 485, 3) := by decide +kernel
theorem dL_law_368 : decode code 368 = .ok (.aload_n 1, 1) := by decide +kernel
theorem dL_law_369 : decode code 369 = .ok (.aload_n 0, 1) := by decide +kernel
theorem dL_law_370 : decode code 370 = .ok (.iload 4, 2) := by decide +kernel
theorem dL_law_372 : decode code 372 = .ok (.iconst 1, 1) := by decide +kernel
theorem dL_law_373 : decode code 373 = .ok (.iadd, 1) := by decide +kernel
theorem dL_law_374 : decode code 374 = .ok (.iaload, 1) := by decide +kernel
theorem dL_law_375 : decode code 375 = .ok (.aload_n 0, 1) := by decide +kernel
theorem dL_law_376 : decode code 376 = .ok (.iload 4, 2) := by decide +kernel
theorem dL_law_378 : decode code 378 = .ok (.iconst 2, 1) := by decide +kernel
theorem dL_law_379 : decode code 379 = .ok (.iadd, 1) := by decide +kernel
theorem dL_law_380 : decode code 380 = .ok (.iaload, 1) := by decide +kernel
theorem dL_law_381 : decode code 381 = .ok (.ifCond .eq 7, 3) := by decide +kernel
theorem dL_law_384 : decode code 384 = .ok (.iconst 1, 1) := by decide +kernel
theorem dL_law_385 : decode code 385 = .ok (.goto 4, 3) := by decide +kernel
theorem dL_law_388 : decode code 388 = .ok (.iconst 0, 1) := by decide +kernel
theorem dL_law_389 : decode code 389 = .ok (.aload_n 3, 1) := by decide +kernel
theorem dL_law_390 : decode code 390 = .ok (.invokestatic 61, 3) := by decide +kernel
theorem dL_law_393 : decode code 393 = .ok (.istore 5, 2) := by decide +kernel
theorem dL_law_395 : decode code 395 = .ok (.aload_n 2, 1) := by decide +kernel
theorem dL_law_396 : decode code 396 = .ok (.aload_n 0, 1) := by decide +kernel
theorem dL_law_397 : decode code 397 = .ok (.iload 4, 2) := by decide +kernel
theorem dL_law_399 : decode code 399 = .ok (.iconst 1, 1) := by decide +kernel
theorem dL_law_400 : decode code 400 = .ok (.iadd, 1) := by decide +kernel
theorem dL_law_401 : decode code 401 = .ok (.iaload, 1) := by decide +kernel
theorem dL_law_402 : decode code 402 = .ok (.aload_n 0, 1) := by decide +kernel
theorem dL_law_403 : decode code 403 = .ok (.iload 4, 2) := by decide +kernel
theorem dL_law_405 : decode code 405 = .ok (.iconst 2, 1) := by decide +kernel
theorem dL_law_406 : decode code 406 = .ok (.iadd, 1) := by decide +kernel
theorem dL_law_407 : decode code 407 = .ok (.iaload, 1) := by decide +kernel
theorem dL_law_408 : decode code 408 = .ok (.ifCond .eq 7, 3) := by decide +kernel
theorem dL_law_411 : decode code 411 = .ok (.iconst 1, 1) := by decide +kernel
theorem dL_law_412 : decode code 412 = .ok (.goto 4, 3) := by decide +kernel
theorem dL_law_415 : decode code 415 = .ok (.iconst 0, 1) := by decide +kernel
theorem dL_law_416 : decode code 416 = .ok (.invokevirtual 64, 3) := by decide +kernel
theorem dL_law_419 : decode code 419 = .ok (.istore 6, 2) := by decide +kernel
theorem dL_law_421 : decode code 421 = .ok (.aload_n 2, 1) := by decide +kernel
theorem dL_law_422 : decode code 422 = .ok (.invokevirtual 47, 3) := by decide +kernel
theorem dL_law_425 : decode code 425 = .ok (.iload 5, 2) := by decide +kernel
theorem dL_law_427 : decode code 427 = .ok (.if_icmp .eq 5, 3) := by decide +kernel
theorem dL_law_430 : decode code 430 = .ok (.iconst 0, 1) := by decide +kernel
theorem dL_law_431 : decode code 431 = .ok (.ireturn, 1) := by decide +kernel
theorem dL_law_432 : decode code 432 = .ok (.iload 5, 2) := by decide +kernel
theorem dL_law_434 : decode code 434 = .ok (.ifCond .ne 15, 3) := by decide +kernel
theorem dL_law_437 : decode code 437 = .ok (.aload_n 3, 1) := by decide +kernel
theorem dL_law_438 : decode code 438 = .ok (.iconst 0, 1) := by decide +kernel
theorem dL_law_439 : decode code 439 = .ok (.laload, 1) := by decide +kernel
theorem dL_law_440 : decode code 440 = .ok (.iload 6, 2) := by decide +kernel
theorem dL_law_442 : decode code 442 = .ok (.i2l, 1) := by decide +kernel
theorem dL_law_443 : decode code 443 = .ok (.lcmp, 1) := by decide +kernel
theorem dL_law_444 : decode code 444 = .ok (.ifCond .eq 5, 3) := by decide +kernel
theorem dL_law_447 : decode code 447 = .ok (.iconst 0, 1) := by decide +kernel
theorem dL_law_448 : decode code 448 = .ok (.ireturn, 1) := by decide +kernel
theorem dL_law_449 : decode code 449 = .ok (.goto 401, 3) := by decide +kernel
theorem dL_law_452 : decode code 452 = .ok (.aload_n 1, 1) := by decide +kernel
theorem dL_law_453 : decode code 453 = .ok (.aload_n 0, 1) := by decide +kernel
theorem dL_law_454 : decode code 454 = .ok (.iload 4, 2) := by decide +kernel
theorem dL_law_456 : decode code 456 = .ok (.iconst 1, 1) := by decide +kernel
theorem dL_law_457 : decode code 457 = .ok (.iadd, 1) := by decide +kernel
theorem dL_law_458 : decode code 458 = .ok (.iaload, 1) := by decide +kernel
theorem dL_law_459 : decode code 459 = .ok (.aload_n 3, 1) := by decide +kernel
theorem dL_law_460 : decode code 460 = .ok (.invokestatic 65, 3) := by decide +kernel
theorem dL_law_463 : decode code 463 = .ok (.istore 5, 2) := by decide +kernel
theorem dL_law_465 : decode code 465 = .ok (.aload_n 2, 1) := by decide +kernel
theorem dL_law_466 : decode code 466 = .ok (.aload_n 0, 1) := by decide +kernel
theorem dL_law_467 : decode code 467 = .ok (.iload 4, 2) := by decide +kernel
theorem dL_law_469 : decode code 469 = .ok (.iconst 1, 1) := by decide +kernel
theorem dL_law_470 : decode code 470 = .ok (.iadd, 1) := by decide +kernel
theorem dL_law_471 : decode code 471 = .ok (.iaload, 1) := by decide +kernel
theorem dL_law_472 : decode code 472 = .ok (.invokevirtual 67, 3) := by decide +kernel
theorem dL_law_475 : decode code 475 = .ok (.istore 6, 2) := by decide +kernel
theorem dL_law_477 : decode code 477 = .ok (.aload_n 2, 1) := by decide +kernel
theorem dL_law_478 : decode code 478 = .ok (.invokevirtual 47, 3) := by decide +kernel
theorem dL_law_481 : decode code 481 = .ok (.iload 5, 2) := by decide +kernel
theorem dL_law_483 : decode code 483 = .ok (.if_icmp .eq 5, 3) := by decide +kernel
theorem dL_law_486 : decode code 486 = .ok (.iconst 0, 1) := by decide +kernel
theorem dL_law_487 : decode code 487 = .ok (.ireturn, 1) := by decide +kernel
theorem dL_law_488 : decode code 488 = .ok (.iload 5, 2) := by decide +kernel
theorem dL_law_490 : decode code 490 = .ok (.ifCond .ne 15, 3) := by decide +kernel
theorem dL_law_493 : decode code 493 = .ok (.aload_n 3, 1) := by decide +kernel
theorem dL_law_494 : decode code 494 = .ok (.iconst 0, 1) := by decide +kernel
theorem dL_law_495 : decode code 495 = .ok (.laload, 1) := by decide +kernel
theorem dL_law_496 : decode code 496 = .ok (.iload 6, 2) := by decide +kernel
theorem dL_law_498 : decode code 498 = .ok (.i2l, 1) := by decide +kernel
theorem dL_law_499 : decode code 499 = .ok (.lcmp, 1) := by decide +kernel
theorem dL_law_500 : decode code 500 = .ok (.ifCond .eq 5, 3) := by decide +kernel
theorem dL_law_503 : decode code 503 = .ok (.iconst 0, 1) := by decide +kernel
theorem dL_law_504 : decode code 504 = .ok (.ireturn, 1) := by decide +kernel
theorem dL_law_505 : decode code 505 = .ok (.goto 345, 3) := by decide +kernel
theorem dL_law_508 : decode code 508 = .ok (.aload_n 1, 1) := by decide +kernel
theorem dL_law_509 : decode code 509 = .ok (.aload_n 0, 1) := by decide +kernel
theorem dL_law_510 : decode code 510 = .ok (.iload 4, 2) := by decide +kernel
theorem dL_law_512 : decode code 512 = .ok (.iconst 1, 1) := by decide +kernel
theorem dL_law_513 : decode code 513 = .ok (.iadd, 1) := by decide +kernel
theorem dL_law_514 : decode code 514 = .ok (.iaload, 1) := by decide +kernel
theorem dL_law_515 : decode code 515 = .ok (.aload_n 3, 1) := by decide +kernel
theorem dL_law_516 : decode code 516 = .ok (.invokestatic 68, 3) := by decide +kernel
theorem dL_law_519 : decode code 519 = .ok (.istore 5, 2) := by decide +kernel
theorem dL_law_521 : decode code 521 = .ok (.aload_n 2, 1) := by decide +kernel
theorem dL_law_522 : decode code 522 = .ok (.aload_n 0, 1) := by decide +kernel
theorem dL_law_523 : decode code 523 = .ok (.iload 4, 2) := by decide +kernel
theorem dL_law_525 : decode code 525 = .ok (.iconst 1, 1) := by decide +kernel
theorem dL_law_526 : decode code 526 = .ok (.iadd, 1) := by decide +kernel
theorem dL_law_527 : decode code 527 = .ok (.iaload, 1) := by decide +kernel
theorem dL_law_528 : decode code 528 = .ok (.invokevirtual 70, 3) := by decide +kernel
theorem dL_law_531 : decode code 531 = .ok (.istore 6, 2) := by decide +kernel
theorem dL_law_533 : decode code 533 = .ok (.aload_n 2, 1) := by decide +kernel
theorem dL_law_534 : decode code 534 = .ok (.invokevirtual 47, 3) := by decide +kernel
theorem dL_law_537 : decode code 537 = .ok (.iload 5, 2) := by decide +kernel
theorem dL_law_539 : decode code 539 = .ok (.if_icmp .eq 5, 3) := by decide +kernel
theorem dL_law_542 : decode code 542 = .ok (.iconst 0, 1) := by decide +kernel
theorem dL_law_543 : decode code 543 = .ok (.ireturn, 1) := by decide +kernel
theorem dL_law_544 : decode code 544 = .ok (.iload 5, 2) := by decide +kernel
theorem dL_law_546 : decode code 546 = .ok (.ifCond .ne 15, 3) := by decide +kernel
theorem dL_law_549 : decode code 549 = .ok (.aload_n 3, 1) := by decide +kernel
theorem dL_law_550 : decode code 550 = .ok (.iconst 0, 1) := by decide +kernel
theorem dL_law_551 : decode code 551 = .ok (.laload, 1) := by decide +kernel
theorem dL_law_552 : decode code 552 = .ok (.iload 6, 2) := by decide +kernel
theorem dL_law_554 : decode code 554 = .ok (.i2l, 1) := by decide +kernel
theorem dL_law_555 : decode code 555 = .ok (.lcmp, 1) := by decide +kernel
theorem dL_law_556 : decode code 556 = .ok (.ifCond .eq 5, 3) := by decide +kernel
theorem dL_law_559 : decode code 559 = .ok (.iconst 0, 1) := by decide +kernel
theorem dL_law_560 : decode code 560 = .ok (.ireturn, 1) := by decide +kernel
theorem dL_law_561 : decode code 561 = .ok (.goto 289, 3) := by decide +kernel
theorem dL_law_564 : decode code 564 = .ok (.aload_n 1, 1) := by decide +kernel
theorem dL_law_565 : decode code 565 = .ok (.aload_n 0, 1) := by decide +kernel
theorem dL_law_566 : decode code 566 = .ok (.iload 4, 2) := by decide +kernel
theorem dL_law_568 : decode code 568 = .ok (.iconst 1, 1) := by decide +kernel
theorem dL_law_569 : decode code 569 = .ok (.iadd, 1) := by decide +kernel
theorem dL_law_570 : decode code 570 = .ok (.iaload, 1) := by decide +kernel
theorem dL_law_571 : decode code 571 = .ok (.aload_n 0, 1) := by decide +kernel
theorem dL_law_572 : decode code 572 = .ok (.iload 4, 2) := by decide +kernel
theorem dL_law_574 : decode code 574 = .ok (.iconst 2, 1) := by decide +kernel
theorem dL_law_575 : decode code 575 = .ok (.iadd, 1) := by decide +kernel
theorem dL_law_576 : decode code 576 = .ok (.iaload, 1) := by decide +kernel
theorem dL_law_577 : decode code 577 = .ok (.invokevirtual 71, 3) := by decide +kernel
theorem dL_law_580 : decode code 580 = .ok (.aload_n 2, 1) := by decide +kernel
theorem dL_law_581 : decode code 581 = .ok (.aload_n 0, 1) := by decide +kernel
theorem dL_law_582 : decode code 582 = .ok (.iload 4, 2) := by decide +kernel
theorem dL_law_584 : decode code 584 = .ok (.iconst 1, 1) := by decide +kernel
theorem dL_law_585 : decode code 585 = .ok (.iadd, 1) := by decide +kernel
theorem dL_law_586 : decode code 586 = .ok (.iaload, 1) := by decide +kernel
theorem dL_law_587 : decode code 587 = .ok (.aload_n 0, 1) := by decide +kernel
theorem dL_law_588 : decode code 588 = .ok (.iload 4, 2) := by decide +kernel
theorem dL_law_590 : decode code 590 = .ok (.iconst 2, 1) := by decide +kernel
theorem dL_law_591 : decode code 591 = .ok (.iadd, 1) := by decide +kernel
theorem dL_law_592 : decode code 592 = .ok (.iaload, 1) := by decide +kernel
theorem dL_law_593 : decode code 593 = .ok (.invokevirtual 74, 3) := by decide +kernel
theorem dL_law_596 : decode code 596 = .ok (.if_icmp .eq 254, 3) := by decide +kernel
theorem dL_law_599 : decode code 599 = .ok (.iconst 0, 1) := by decide +kernel
theorem dL_law_600 : decode code 600 = .ok (.ireturn, 1) := by decide +kernel
theorem dL_law_601 : decode code 601 = .ok (.aload_n 1, 1) := by decide +kernel
theorem dL_law_602 : decode code 602 = .ok (.aload_n 0, 1) := by decide +kernel
theorem dL_law_603 : decode code 603 = .ok (.iload 4, 2) := by decide +kernel
theorem dL_law_605 : decode code 605 = .ok (.iconst 1, 1) := by decide +kernel
theorem dL_law_606 : decode code 606 = .ok (.iadd, 1) := by decide +kernel
theorem dL_law_607 : decode code 607 = .ok (.iaload, 1) := by decide +kernel
theorem dL_law_608 : decode code 608 = .ok (.aload_n 0, 1) := by decide +kernel
theorem dL_law_609 : decode code 609 = .ok (.iload 4, 2) := by decide +kernel
theorem dL_law_611 : decode code 611 = .ok (.iconst 2, 1) := by decide +kernel
theorem dL_law_612 : decode code 612 = .ok (.iadd, 1) := by decide +kernel
theorem dL_law_613 : decode code 613 = .ok (.iaload, 1) := by decide +kernel
theorem dL_law_614 : decode code 614 = .ok (.invokevirtual 75, 3) := by decide +kernel
theorem dL_law_617 : decode code 617 = .ok (.aload_n 2, 1) := by decide +kernel
theorem dL_law_618 : decode code 618 = .ok (.aload_n 0, 1) := by decide +kernel
theorem dL_law_619 : decode code 619 = .ok (.iload 4, 2) := by decide +kernel
theorem dL_law_621 : decode code 621 = .ok (.iconst 1, 1) := by decide +kernel
theorem dL_law_622 : decode code 622 = .ok (.iadd, 1) := by decide +kernel
theorem dL_law_623 : decode code 623 = .ok (.iaload, 1) := by decide +kernel
theorem dL_law_624 : decode code 624 = .ok (.aload_n 0, 1) := by decide +kernel
theorem dL_law_625 : decode code 625 = .ok (.iload 4, 2) := by decide +kernel
theorem dL_law_627 : decode code 627 = .ok (.iconst 2, 1) := by decide +kernel
theorem dL_law_628 : decode code 628 = .ok (.iadd, 1) := by decide +kernel
theorem dL_law_629 : decode code 629 = .ok (.iaload, 1) := by decide +kernel
theorem dL_law_630 : decode code 630 = .ok (.invokevirtual 79, 3) := by decide +kernel
theorem dL_law_633 : decode code 633 = .ok (.if_icmp .eq 217, 3) := by decide +kernel
theorem dL_law_636 : decode code 636 = .ok (.iconst 0, 1) := by decide +kernel
theorem dL_law_637 : decode code 637 = .ok (.ireturn, 1) := by decide +kernel
theorem dL_law_638 : decode code 638 = .ok (.aload_n 1, 1) := by decide +kernel
theorem dL_law_639 : decode code 639 = .ok (.aload_n 0, 1) := by decide +kernel
theorem dL_law_640 : decode code 640 = .ok (.iload 4, 2) := by decide +kernel
theorem dL_law_642 : decode code 642 = .ok (.iconst 1, 1) := by decide +kernel
theorem dL_law_643 : decode code 643 = .ok (.iadd, 1) := by decide +kernel
theorem dL_law_644 : decode code 644 = .ok (.iaload, 1) := by decide +kernel
theorem dL_law_645 : decode code 645 = .ok (.invokevirtual 80, 3) := by decide +kernel
theorem dL_law_648 : decode code 648 = .ok (.aload_n 2, 1) := by decide +kernel
theorem dL_law_649 : decode code 649 = .ok (.aload_n 0, 1) := by decide +kernel
theorem dL_law_650 : decode code 650 = .ok (.iload 4, 2) := by decide +kernel
theorem dL_law_652 : decode code 652 = .ok (.iconst 1, 1) := by decide +kernel
theorem dL_law_653 : decode code 653 = .ok (.iadd, 1) := by decide +kernel
theorem dL_law_654 : decode code 654 = .ok (.iaload, 1) := by decide +kernel
theorem dL_law_655 : decode code 655 = .ok (.invokevirtual 84, 3) := by decide +kernel
theorem dL_law_658 : decode code 658 = .ok (.if_icmp .eq 192, 3) := by decide +kernel
theorem dL_law_661 : decode code 661 = .ok (.iconst 0, 1) := by decide +kernel
theorem dL_law_662 : decode code 662 = .ok (.ireturn, 1) := by decide +kernel
theorem dL_law_663 : decode code 663 = .ok (.aload_n 1, 1) := by decide +kernel
theorem dL_law_664 : decode code 664 = .ok (.aload_n 0, 1) := by decide +kernel
theorem dL_law_665 : decode code 665 = .ok (.iload 4, 2) := by decide +kernel
theorem dL_law_667 : decode code 667 = .ok (.iconst 1, 1) := by decide +kernel
theorem dL_law_668 : decode code 668 = .ok (.iadd, 1) := by decide +kernel
theorem dL_law_669 : decode code 669 = .ok (.iaload, 1) := by decide +kernel
theorem dL_law_670 : decode code 670 = .ok (.aload_n 0, 1) := by decide +kernel
theorem dL_law_671 : decode code 671 = .ok (.iload 4, 2) := by decide +kernel
theorem dL_law_673 : decode code 673 = .ok (.iconst 2, 1) := by decide +kernel
theorem dL_law_674 : decode code 674 = .ok (.iadd, 1) := by decide +kernel
theorem dL_law_675 : decode code 675 = .ok (.iaload, 1) := by decide +kernel
theorem dL_law_676 : decode code 676 = .ok (.aload_n 0, 1) := by decide +kernel
theorem dL_law_677 : decode code 677 = .ok (.iload 4, 2) := by decide +kernel
theorem dL_law_679 : decode code 679 = .ok (.iconst 3, 1) := by decide +kernel
theorem dL_law_680 : decode code 680 = .ok (.iadd, 1) := by decide +kernel
theorem dL_law_681 : decode code 681 = .ok (.iaload, 1) := by decide +kernel
theorem dL_law_682 : decode code 682 = .ok (.invokevirtual 85, 3) := by decide +kernel
theorem dL_law_685 : decode code 685 = .ok (.aload_n 2, 1) := by decide +kernel
theorem dL_law_686 : decode code 686 = .ok (.aload_n 0, 1) := by decide +kernel
theorem dL_law_687 : decode code 687 = .ok (.iload 4, 2) := by decide +kernel
theorem dL_law_689 : decode code 689 = .ok (.iconst 1, 1) := by decide +kernel
theorem dL_law_690 : decode code 690 = .ok (.iadd, 1) := by decide +kernel
theorem dL_law_691 : decode code 691 = .ok (.iaload, 1) := by decide +kernel
theorem dL_law_692 : decode code 692 = .ok (.aload_n 0, 1) := by decide +kernel
theorem dL_law_693 : decode code 693 = .ok (.iload 4, 2) := by decide +kernel
theorem dL_law_695 : decode code 695 = .ok (.iconst 2, 1) := by decide +kernel
theorem dL_law_696 : decode code 696 = .ok (.iadd, 1) := by decide +kernel
theorem dL_law_697 : decode code 697 = .ok (.iaload, 1) := by decide +kernel
theorem dL_law_698 : decode code 698 = .ok (.aload_n 0, 1) := by decide +kernel
theorem dL_law_699 : decode code 699 = .ok (.iload 4, 2) := by decide +kernel
theorem dL_law_701 : decode code 701 = .ok (.iconst 3, 1) := by decide +kernel
theorem dL_law_702 : decode code 702 = .ok (.iadd, 1) := by decide +kernel
theorem dL_law_703 : decode code 703 = .ok (.iaload, 1) := by decide +kernel
theorem dL_law_704 : decode code 704 = .ok (.invokevirtual 89, 3) := by decide +kernel
theorem dL_law_707 : decode code 707 = .ok (.if_icmp .eq 143, 3) := by decide +kernel
theorem dL_law_710 : decode code 710 = .ok (.iconst 0, 1) := by decide +kernel
theorem dL_law_711 : decode code 711 = .ok (.ireturn, 1) := by decide +kernel
theorem dL_law_712 : decode code 712 = .ok (.aload_n 1, 1) := by decide +kernel
theorem dL_law_713 : decode code 713 = .ok (.aload_n 0, 1) := by decide +kernel
theorem dL_law_714 : decode code 714 = .ok (.iload 4, 2) := by decide +kernel
theorem dL_law_716 : decode code 716 = .ok (.iconst 1, 1) := by decide +kernel
theorem dL_law_717 : decode code 717 = .ok (.iadd, 1) := by decide +kernel
theorem dL_law_718 : decode code 718 = .ok (.iaload, 1) := by decide +kernel
theorem dL_law_719 : decode code 719 = .ok (.aload_n 0, 1) := by decide +kernel
theorem dL_law_720 : decode code 720 = .ok (.iload 4, 2) := by decide +kernel
theorem dL_law_722 : decode code 722 = .ok (.iconst 2, 1) := by decide +kernel
theorem dL_law_723 : decode code 723 = .ok (.iadd, 1) := by decide +kernel
theorem dL_law_724 : decode code 724 = .ok (.iaload, 1) := by decide +kernel
theorem dL_law_725 : decode code 725 = .ok (.invokevirtual 90, 3) := by decide +kernel
theorem dL_law_728 : decode code 728 = .ok (.aload_n 2, 1) := by decide +kernel
theorem dL_law_729 : decode code 729 = .ok (.aload_n 0, 1) := by decide +kernel
theorem dL_law_730 : decode code 730 = .ok (.iload 4, 2) := by decide +kernel
theorem dL_law_732 : decode code 732 = .ok (.iconst 1, 1) := by decide +kernel
theorem dL_law_733 : decode code 733 = .ok (.iadd, 1) := by decide +kernel
theorem dL_law_734 : decode code 734 = .ok (.iaload, 1) := by decide +kernel
theorem dL_law_735 : decode code 735 = .ok (.aload_n 0, 1) := by decide +kernel
theorem dL_law_736 : decode code 736 = .ok (.iload 4, 2) := by decide +kernel
theorem dL_law_738 : decode code 738 = .ok (.iconst 2, 1) := by decide +kernel
theorem dL_law_739 : decode code 739 = .ok (.iadd, 1) := by decide +kernel
theorem dL_law_740 : decode code 740 = .ok (.iaload, 1) := by decide +kernel
theorem dL_law_741 : decode code 741 = .ok (.invokevirtual 93, 3) := by decide +kernel
theorem dL_law_744 : decode code 744 = .ok (.if_icmp .eq 106, 3) := by decide +kernel
theorem dL_law_747 : decode code 747 = .ok (.iconst 0, 1) := by decide +kernel
theorem dL_law_748 : decode code 748 = .ok (.ireturn, 1) := by decide +kernel
theorem dL_law_749 : decode code 749 = .ok (.aload_n 1, 1) := by decide +kernel
theorem dL_law_750 : decode code 750 = .ok (.invokevirtual 94, 3) := by decide +kernel
theorem dL_law_753 : decode code 753 = .ok (.aload_n 2, 1) := by decide +kernel
theorem dL_law_754 : decode code 754 = .ok (.invokevirtual 97, 3) := by decide +kernel
theorem dL_law_757 : decode code 757 = .ok (.if_icmp .eq 93, 3) := by decide +kernel
theorem dL_law_760 : decode code 760 = .ok (.iconst 0, 1) := by decide +kernel
theorem dL_law_761 : decode code 761 = .ok (.ireturn, 1) := by decide +kernel
theorem dL_law_762 : decode code 762 = .ok (.aload_n 1, 1) := by decide +kernel
theorem dL_law_763 : decode code 763 = .ok (.invokevirtual 98, 3) := by decide +kernel
theorem dL_law_766 : decode code 766 = .ok (.aload_n 2, 1) := by decide +kernel
theorem dL_law_767 : decode code 767 = .ok (.invokevirtual 101, 3) := by decide +kernel
theorem dL_law_770 : decode code 770 = .ok (.if_icmp .eq 80, 3) := by decide +kernel
theorem dL_law_773 : decode code 773 = .ok (.iconst 0, 1) := by decide +kernel
theorem dL_law_774 : decode code 774 = .ok (.ireturn, 1) := by decide +kernel
theorem dL_law_775 : decode code 775 = .ok (.aload_n 1, 1) := by decide +kernel
theorem dL_law_776 : decode code 776 = .ok (.aload_n 0, 1) := by decide +kernel
theorem dL_law_777 : decode code 777 = .ok (.iload 4, 2) := by decide +kernel
theorem dL_law_779 : decode code 779 = .ok (.iconst 1, 1) := by decide +kernel
theorem dL_law_780 : decode code 780 = .ok (.iadd, 1) := by decide +kernel
theorem dL_law_781 : decode code 781 = .ok (.iaload, 1) := by decide +kernel
theorem dL_law_782 : decode code 782 = .ok (.invokevirtual 102, 3) := by decide +kernel
theorem dL_law_785 : decode code 785 = .ok (.aload_n 2, 1) := by decide +kernel
theorem dL_law_786 : decode code 786 = .ok (.aload_n 0, 1) := by decide +kernel
theorem dL_law_787 : decode code 787 = .ok (.iload 4, 2) := by decide +kernel
theorem dL_law_789 : decode code 789 = .ok (.iconst 1, 1) := by decide +kernel
theorem dL_law_790 : decode code 790 = .ok (.iadd, 1) := by decide +kernel
theorem dL_law_791 : decode code 791 = .ok (.iaload, 1) := by decide +kernel
theorem dL_law_792 : decode code 792 = .ok (.invokevirtual 105, 3) := by decide +kernel
theorem dL_law_795 : decode code 795 = .ok (.if_icmp .eq 55, 3) := by decide +kernel
theorem dL_law_798 : decode code 798 = .ok (.iconst 0, 1) := by decide +kernel
theorem dL_law_799 : decode code 799 = .ok (.ireturn, 1) := by decide +kernel
theorem dL_law_800 : decode code 800 = .ok (.aload_n 1, 1) := by decide +kernel
theorem dL_law_801 : decode code 801 = .ok (.aload_n 0, 1) := by decide +kernel
theorem dL_law_802 : decode code 802 = .ok (.iload 4, 2) := by decide +kernel
theorem dL_law_804 : decode code 804 = .ok (.iconst 1, 1) := by decide +kernel
theorem dL_law_805 : decode code 805 = .ok (.iadd, 1) := by decide +kernel
theorem dL_law_806 : decode code 806 = .ok (.iaload, 1) := by decide +kernel
theorem dL_law_807 : decode code 807 = .ok (.aload_n 0, 1) := by decide +kernel
theorem dL_law_808 : decode code 808 = .ok (.iload 4, 2) := by decide +kernel
theorem dL_law_810 : decode code 810 = .ok (.iconst 2, 1) := by decide +kernel
theorem dL_law_811 : decode code 811 = .ok (.iadd, 1) := by decide +kernel
theorem dL_law_812 : decode code 812 = .ok (.iaload, 1) := by decide +kernel
theorem dL_law_813 : decode code 813 = .ok (.invokevirtual 106, 3) := by decide +kernel
theorem dL_law_816 : decode code 816 = .ok (.aload_n 2, 1) := by decide +kernel
theorem dL_law_817 : decode code 817 = .ok (.aload_n 0, 1) := by decide +kernel
theorem dL_law_818 : decode code 818 = .ok (.iload 4, 2) := by decide +kernel
theorem dL_law_820 : decode code 820 = .ok (.iconst 1, 1) := by decide +kernel
theorem dL_law_821 : decode code 821 = .ok (.iadd, 1) := by decide +kernel
theorem dL_law_822 : decode code 822 = .ok (.iaload, 1) := by decide +kernel
theorem dL_law_823 : decode code 823 = .ok (.aload_n 0, 1) := by decide +kernel
theorem dL_law_824 : decode code 824 = .ok (.iload 4, 2) := by decide +kernel
theorem dL_law_826 : decode code 826 = .ok (.iconst 2, 1) := by decide +kernel
theorem dL_law_827 : decode code 827 = .ok (.iadd, 1) := by decide +kernel
theorem dL_law_828 : decode code 828 = .ok (.iaload, 1) := by decide +kernel
theorem dL_law_829 : decode code 829 = .ok (.invokevirtual 109, 3) := by decide +kernel
theorem dL_law_832 : decode code 832 = .ok (.if_icmp .eq 18, 3) := by decide +kernel
theorem dL_law_835 : decode code 835 = .ok (.iconst 0, 1) := by decide +kernel
theorem dL_law_836 : decode code 836 = .ok (.ireturn, 1) := by decide +kernel
theorem dL_law_837 : decode code 837 = .ok (.aload_n 1, 1) := by decide +kernel
theorem dL_law_838 : decode code 838 = .ok (.invokevirtual 110, 3) := by decide +kernel
theorem dL_law_841 : decode code 841 = .ok (.aload_n 2, 1) := by decide +kernel
theorem dL_law_842 : decode code 842 = .ok (.invokevirtual 113, 3) := by decide +kernel
theorem dL_law_845 : decode code 845 = .ok (.if_icmp .eq 5, 3) := by decide +kernel
theorem dL_law_848 : decode code 848 = .ok (.iconst 0, 1) := by decide +kernel
theorem dL_law_849 : decode code 849 = .ok (.ireturn, 1) := by decide +kernel
theorem dL_law_850 : decode code 850 = .ok (.iinc 4 4, 3) := by decide +kernel
theorem dL_law_853 : decode code 853 = .ok (.goto (-830), 3) := by decide +kernel
theorem dL_law_856 : decode code 856 = .ok (.iconst 1, 1) := by decide +kernel
theorem dL_law_857 : decode code 857 = .ok (.ireturn, 1) := by decide +kernel
end
section
theorem dA_fill_0 : decode prog_19_method_103_code 0 = .ok (.iconst 0, 1) := by decide +kernel
theorem dA_fill_1 : decode prog_19_method_103_code 1 = .ok (.istore_n 2, 1) := by decide +kernel
theorem dA_fill_2 : decode prog_19_method_103_code 2 = .ok (.aload_n 0, 1) := by decide +kernel
theorem dA_fill_3 : decode prog_19_method_103_code 3 = .ok (.arraylength, 1) := by decide +kernel
theorem dA_fill_4 : decode prog_19_method_103_code 4 = .ok (.istore_n 3, 1) := by decide +kernel
theorem dA_fill_5 : decode prog_19_method_103_code 5 = .ok (.iload_n 2, 1) := by decide +kernel
theorem dA_fill_6 : decode prog_19_method_103_code 6 = .ok (.iload_n 3, 1) := by decide +kernel
theorem dA_fill_7 : decode prog_19_method_103_code 7 = .ok (.if_icmp .ge 13, 3) := by decide +kernel
theorem dA_fill_10 : decode prog_19_method_103_code 10 = .ok (.aload_n 0, 1) := by decide +kernel
theorem dA_fill_11 : decode prog_19_method_103_code 11 = .ok (.iload_n 2, 1) := by decide +kernel
theorem dA_fill_12 : decode prog_19_method_103_code 12 = .ok (.iload_n 1, 1) := by decide +kernel
theorem dA_fill_13 : decode prog_19_method_103_code 13 = .ok (.iastore, 1) := by decide +kernel
theorem dA_fill_14 : decode prog_19_method_103_code 14 = .ok (.iinc 2 1, 3) := by decide +kernel
theorem dA_fill_17 : decode prog_19_method_103_code 17 = .ok (.goto (-12), 3) := by decide +kernel
theorem dA_fill_20 : decode prog_19_method_103_code 20 = .ok (.return_, 1) := by decide +kernel
theorem dA_copyOf0_0 : decode prog_19_method_121_code 0 = .ok (.iload_n 1, 1) := by decide +kernel
theorem dA_copyOf0_1 : decode prog_19_method_121_code 1 = .ok (.aload_n 0, 1) := by decide +kernel
theorem dA_copyOf0_2 : decode prog_19_method_121_code 2 = .ok (.arraylength, 1) := by decide +kernel
theorem dA_copyOf0_3 : decode prog_19_method_121_code 3 = .ok (.if_icmp .ne 11, 3) := by decide +kernel
theorem dA_copyOf0_6 : decode prog_19_method_121_code 6 = .ok (.aload_n 0, 1) := by decide +kernel
theorem dA_copyOf0_7 : decode prog_19_method_121_code 7 = .ok (.invokevirtual 310, 3) := by decide +kernel
theorem dA_copyOf0_10 : decode prog_19_method_121_code 10 = .ok (.checkcast 311, 3) := by decide +kernel
theorem dA_copyOf0_13 : decode prog_19_method_121_code 13 = .ok (.areturn, 1) := by decide +kernel
theorem dA_copyOf0_14 : decode prog_19_method_121_code 14 = .ok (.iload_n 1, 1) := by decide +kernel
theorem dA_copyOf0_15 : decode prog_19_method_121_code 15 = .ok (.newarray .byte, 2) := by decide +kernel
theorem dA_copyOf0_17 : decode prog_19_method_121_code 17 = .ok (.astore_n 2, 1) := by decide +kernel
theorem dA_copyOf0_18 : decode prog_19_method_121_code 18 = .ok (.aload_n 0, 1) := by decide +kernel
theorem dA_copyOf0_19 : decode prog_19_method_121_code 19 = .ok (.iconst 0, 1) := by decide +kernel
theorem dA_copyOf0_20 : decode prog_19_method_121_code 20 = .ok (.aload_n 2, 1) := by decide +kernel
theorem dA_copyOf0_21 : decode prog_19_method_121_code 21 = .ok (.iconst 0, 1) := by decide +kernel
theorem dA_copyOf0_22 : decode prog_19_method_121_code 22 = .ok (.aload_n 0, 1) := by decide +kernel
theorem dA_copyOf0_23 : decode prog_19_method_121_code 23 = .ok (.arraylength, 1) := by decide +kernel
theorem dA_copyOf0_24 : decode prog_19_method_121_code 24 = .ok (.iload_n 1, 1) := by decide +kernel
theorem dA_copyOf0_25 : decode prog_19_method_121_code 25 = .ok (.invokestatic 304, 3) := by decide +kernel
theorem dA_copyOf0_28 : decode prog_19_method_121_code 28 = .ok (.invokestatic 150, 3) := by decide +kernel
theorem dA_copyOf0_31 : decode prog_19_method_121_code 31 = .ok (.aload_n 2, 1) := by decide +kernel
theorem dA_copyOf0_32 : decode prog_19_method_121_code 32 = .ok (.areturn, 1) := by decide +kernel
theorem dA_copyOf1_0 : decode prog_19_method_123_code 0 = .ok (.iload_n 1, 1) := by decide +kernel
theorem dA_copyOf1_1 : decode prog_19_method_123_code 1 = .ok (.aload_n 0, 1) := by decide +kernel
theorem dA_copyOf1_2 : decode prog_19_method_123_code 2 = .ok (.arraylength, 1) := by decide +kernel
theorem dA_copyOf1_3 : decode prog_19_method_123_code 3 = .ok (.if_icmp .ne 11, 3) := by decide +kernel
theorem dA_copyOf1_6 : decode prog_19_method_123_code 6 = .ok (.aload_n 0, 1) := by decide +kernel
theorem dA_copyOf1_7 : decode prog_19_method_123_code 7 = .ok (.invokevirtual 316, 3) := by decide +kernel
theorem dA_copyOf1_10 : decode prog_19_method_123_code 10 = .ok (.checkcast 317, 3) := by decide +kernel
theorem dA_copyOf1_13 : decode prog_19_method_123_code 13 = .ok (.areturn, 1) := by decide +kernel
theorem dA_copyOf1_14 : decode prog_19_method_123_code 14 = .ok (.iload_n 1, 1) := by decide +kernel
theorem dA_copyOf1_15 : decode prog_19_method_123_code 15 = .ok (.newarray .int, 2) := by decide +kernel
theorem dA_copyOf1_17 : decode prog_19_method_123_code 17 = .ok (.astore_n 2, 1) := by decide +kernel
theorem dA_copyOf1_18 : decode prog_19_method_123_code 18 = .ok (.aload_n 0, 1) := by decide +kernel
theorem dA_copyOf1_19 : decode prog_19_method_123_code 19 = .ok (.iconst 0, 1) := by decide +kernel
theorem dA_copyOf1_20 : decode prog_19_method_123_code 20 = .ok (.aload_n 2, 1) := by decide +kernel
theorem dA_copyOf1_21 : decode prog_19_method_123_code 21 = .ok (.iconst 0, 1) := by decide +kernel
theorem dA_copyOf1_22 : decode prog_19_method_123_code 22 = .ok (.aload_n 0, 1) := by decide +kernel
theorem dA_copyOf1_23 : decode prog_19_method_123_code 23 = .ok (.arraylength, 1) := by decide +kernel
theorem dA_copyOf1_24 : decode prog_19_method_123_code 24 = .ok (.iload_n 1, 1) := by decide +kernel
theorem dA_copyOf1_25 : decode prog_19_method_123_code 25 = .ok (.invokestatic 304, 3) := by decide +kernel
theorem dA_copyOf1_28 : decode prog_19_method_123_code 28 = .ok (.invokestatic 150, 3) := by decide +kernel
theorem dA_copyOf1_31 : decode prog_19_method_123_code 31 = .ok (.aload_n 2, 1) := by decide +kernel
theorem dA_copyOf1_32 : decode prog_19_method_123_code 32 = .ok (.areturn, 1) := by decide +kernel
end
section
theorem dI_bitCount_0 : decode prog_14_method_49_code 0 = .ok (.iload_n 0, 1) := by decide +kernel
theorem dI_bitCount_1 : decode prog_14_method_49_code 1 = .ok (.iload_n 0, 1) := by decide +kernel
theorem dI_bitCount_2 : decode prog_14_method_49_code 2 = .ok (.iconst 1, 1) := by decide +kernel
theorem dI_bitCount_3 : decode prog_14_method_49_code 3 = .ok (.iushr, 1) := by decide +kernel
theorem dI_bitCount_4 : decode prog_14_method_49_code 4 = .ok (.ldc_w 265, 3) := by decide +kernel
theorem dI_bitCount_7 : decode prog_14_method_49_code 7 = .ok (.iand, 1) := by decide +kernel
theorem dI_bitCount_8 : decode prog_14_method_49_code 8 = .ok (.isub, 1) := by decide +kernel
theorem dI_bitCount_9 : decode prog_14_method_49_code 9 = .ok (.istore_n 0, 1) := by decide +kernel
theorem dI_bitCount_10 : decode prog_14_method_49_code 10 = .ok (.iload_n 0, 1) := by decide +kernel
theorem dI_bitCount_11 : decode prog_14_method_49_code 11 = .ok (.ldc_w 266, 3) := by decide +kernel
theorem dI_bitCount_14 : decode prog_14_method_49_code 14 = .ok (.iand, 1) := by decide +kernel
theorem dI_bitCount_15 : decode prog_14_method_49_code 15 = .ok (.iload_n 0, 1) := by decide +kernel
theorem dI_bitCount_16 : decode prog_14_method_49_code 16 = .ok (.iconst 2, 1) := by decide +kernel
theorem dI_bitCount_17 : decode prog_14_method_49_code 17 = .ok (.iushr, 1) := by decide +kernel
theorem dI_bitCount_18 : decode prog_14_method_49_code 18 = .ok (.ldc_w 266, 3) := by decide +kernel
theorem dI_bitCount_21 : decode prog_14_method_49_code 21 = .ok (.iand, 1) := by decide +kernel
theorem dI_bitCount_22 : decode prog_14_method_49_code 22 = .ok (.iadd, 1) := by decide +kernel
theorem dI_bitCount_23 : decode prog_14_method_49_code 23 = .ok (.istore_n 0, 1) := by decide +kernel
theorem dI_bitCount_24 : decode prog_14_method_49_code 24 = .ok (.iload_n 0, 1) := by decide +kernel
theorem dI_bitCount_25 : decode prog_14_method_49_code 25 = .ok (.iload_n 0, 1) := by decide +kernel
theorem dI_bitCount_26 : decode prog_14_method_49_code 26 = .ok (.iconst 4, 1) := by decide +kernel
theorem dI_bitCount_27 : decode prog_14_method_49_code 27 = .ok (.iushr, 1) := by decide +kernel
theorem dI_bitCount_28 : decode prog_14_method_49_code 28 = .ok (.iadd, 1) := by decide +kernel
theorem dI_bitCount_29 : decode prog_14_method_49_code 29 = .ok (.ldc_w 267, 3) := by decide +kernel
theorem dI_bitCount_32 : decode prog_14_method_49_code 32 = .ok (.iand, 1) := by decide +kernel
theorem dI_bitCount_33 : decode prog_14_method_49_code 33 = .ok (.istore_n 0, 1) := by decide +kernel
theorem dI_bitCount_34 : decode prog_14_method_49_code 34 = .ok (.iload_n 0, 1) := by decide +kernel
theorem dI_bitCount_35 : decode prog_14_method_49_code 35 = .ok (.iload_n 0, 1) := by decide +kernel
theorem dI_bitCount_36 : decode prog_14_method_49_code 36 = .ok (.bipush 8, 2) := by decide +kernel
theorem dI_bitCount_38 : decode prog_14_method_49_code 38 = .ok (.iushr, 1) := by decide +kernel
theorem dI_bitCount_39 : decode prog_14_method_49_code 39 = .ok (.iadd, 1) := by decide +kernel
theorem dI_bitCount_40 : decode prog_14_method_49_code 40 = .ok (.istore_n 0, 1) := by decide +kernel
theorem dI_bitCount_41 : decode prog_14_method_49_code 41 = .ok (.iload_n 0, 1) := by decide +kernel
theorem dI_bitCount_42 : decode prog_14_method_49_code 42 = .ok (.iload_n 0, 1) := by decide +kernel
theorem dI_bitCount_43 : decode prog_14_method_49_code 43 = .ok (.bipush 16, 2) := by decide +kernel
theorem dI_bitCount_45 : decode prog_14_method_49_code 45 = .ok (.iushr, 1) := by decide +kernel
theorem dI_bitCount_46 : decode prog_14_method_49_code 46 = .ok (.iadd, 1) := by decide +kernel
theorem dI_bitCount_47 : decode prog_14_method_49_code 47 = .ok (.istore_n 0, 1) := by decide +kernel
theorem dI_bitCount_48 : decode prog_14_method_49_code 48 = .ok (.iload_n 0, 1) := by decide +kernel
theorem dI_bitCount_49 : decode prog_14_method_49_code 49 = .ok (.bipush 63, 2) := by decide +kernel
theorem dI_bitCount_51 : decode prog_14_method_49_code 51 = .ok (.iand, 1) := by decide +kernel
theorem dI_bitCount_52 : decode prog_14_method_49_code 52 = .ok (.ireturn, 1) := by decide +kernel
end
section
theorem dH_min_0 : decode prog_15_method_69_code 0 = .ok (.iload_n 0, 1) := by decide +kernel
theorem dH_min_1 : decode prog_15_method_69_code 1 = .ok (.iload_n 1, 1) := by decide +kernel
theorem dH_min_2 : decode prog_15_method_69_code 2 = .ok (.if_icmp .gt 7, 3) := by decide +kernel
theorem dH_min_5 : decode prog_15_method_69_code 5 = .ok (.iload_n 0, 1) := by decide +kernel
theorem dH_min_6 : decode prog_15_method_69_code 6 = .ok (.goto 4, 3) := by decide +kernel
theorem dH_min_9 : decode prog_15_method_69_code 9 = .ok (.iload_n 1, 1) := by decide +kernel
theorem dH_min_10 : decode prog_15_method_69_code 10 = .ok (.ireturn, 1) := by decide +kernel
theorem dH_max_0 : decode prog_15_method_65_code 0 = .ok (.iload_n 0, 1) := by decide +kernel
theorem dH_max_1 : decode prog_15_method_65_code 1 = .ok (.iload_n 1, 1) := by decide +kernel
theorem dH_max_2 : decode prog_15_method_65_code 2 = .ok (.if_icmp .lt 7, 3) := by decide +kernel
theorem dH_max_5 : decode prog_15_method_65_code 5 = .ok (.iload_n 0, 1) := by decide +kernel
theorem dH_max_6 : decode prog_15_method_65_code 6 = .ok (.goto 4, 3) := by decide +kernel
theorem dH_max_9 : decode prog_15_method_65_code 9 = .ok (.iload_n 1, 1) := by decide +kernel
theorem dH_max_10 : decode prog_15_method_65_code 10 = .ok (.ireturn, 1) := by decide +kernel
end
section
/-! rows of comfort over part 03 -/
theorem gh_kd {a b i j : Nat} (h : a ≠ b) : ((a, i) : gh_K) ≠ (b, j) := fun q => h (congrArg Prod.fst q)
theorem gh_kx {a i j : Nat} (h : i ≠ j) : ((a, i) : gh_K) ≠ (a, j) := fun q => h (congrArg Prod.snd q)
theorem gh_inc (j : Nat) : nI j + Int32.ofInt 1 = nI (j + 1) := nI_1 j
abbrev rr (n c s : Nat) : Room := { frames := n, cells := c, slots := s, locals := 40 * n }
theorem gh_uself {g : gh_H} {k : gh_K} {v : Nat × gh_E} (h : g k = some v) : gh_u g k v = g := by
  funext q
  by_cases e : q = k
  · subst e; rw [gh_us, h]
  · rw [gh_un e]
theorem gh_swap {g : gh_H} {k q : gh_K} {v w : Nat × gh_E} (h : k ≠ q) : gh_u (gh_u g k v) q w = gh_u (gh_u g q w) k v := by
  funext r
  by_cases e : r = k
  · subst e; rw [gh_us, gh_un h, gh_us]
  · by_cases e2 : r = q
    · subst e2; rw [gh_us, gh_un e, gh_us]
    · rw [gh_un e2, gh_un e, gh_un e, gh_un e2]
section GC
variable {l : Launch} {d : gh_D} {z : gh_Z} {mm : gh_M} {rm : Room} {pc : Nat} {ls : List (Option Value)} {rest : List Value} {g : gh_H} {cb sb : Nat}
theorem gh_ti {x : Int32} (y : Int32) (e : x = y) (k : gh_W l d z pc ls (.int y :: rest) g cb sb) : gh_W l d z pc ls (.int x :: rest) g cb sb := e ▸ k
theorem gh_tr {x : Option Nat} (y : Option Nat) (e : x = y) (k : gh_W l d z pc ls (va_rf y :: rest) g cb sb) : gh_W l d z pc ls (va_rf x :: rest) g cb sb := e ▸ k
theorem gh_tg {g1 : gh_H} (e : g = g1) (k : gh_W l d z pc ls rest g1 cb sb) : gh_W l d z pc ls rest g cb sb := e ▸ k
theorem gh_vin {i : Int32} {n : Nat} (j : Nat) (hi : i = nI j) (hj : j < n ∧ n < 2 ^ 31) : vp_in i n := by rw [hi]; exact vp_in_nI hj.1 hj.2
theorem gh_cl9 {i : Int32} {n : Nat} (j : Nat) (hi : i = nI j) (hj : j < n ∧ n < 2 ^ 31) : i.toNatClampNeg = j := by rw [hi]; exact nI_clamp (by omega)
theorem gh_ialdN (C : gh_X d z mm rm) {t a n : Nat} {K : gh_K} {f : Nat → Int32} {i : Int32} (j : Nat) (hg : g K = some (a, .inl (t, n, .inl f))) (ht : gh_ty[t]? = some .int) (hi : i = nI j) (hj : j < n ∧ n < 2 ^ 31) (hd : decode mm.2.1 pc = .ok (.iaload, 1)) (kk : gh_W l d z (pc + 1) ls (.int (f j) :: rest) g cb sb) : gh_W l d z pc ls (.int i :: .ref a :: rest) g cb sb :=
  gh_iald C hg ht (gh_vin j hi hj) hd (by rw [gh_cl9 j hi hj]; exact kk)
theorem gh_baldN (C : gh_X d z mm rm) {t a n : Nat} {K : gh_K} {f : Nat → Int32} {i : Int32} (j : Nat) (hg : g K = some (a, .inl (t, n, .inl f))) (ht : gh_ty[t]? = some .byte) (hi : i = nI j) (hj : j < n ∧ n < 2 ^ 31) (hd : decode mm.2.1 pc = .ok (.baload, 1)) (kk : gh_W l d z (pc + 1) ls (.int (f j) :: rest) g cb sb) : gh_W l d z pc ls (.int i :: .ref a :: rest) g cb sb :=
  gh_bald C hg ht (gh_vin j hi hj) hd (by rw [gh_cl9 j hi hj]; exact kk)
theorem gh_zaldN (C : gh_X d z mm rm) {t a n : Nat} {K : gh_K} {f : Nat → Int32} {i : Int32} (j : Nat) (hg : g K = some (a, .inl (t, n, .inl f))) (ht : gh_ty[t]? = some .boolean) (hi : i = nI j) (hj : j < n ∧ n < 2 ^ 31) (hd : decode mm.2.1 pc = .ok (.baload, 1)) (kk : gh_W l d z (pc + 1) ls (.int (f j) :: rest) g cb sb) : gh_W l d z pc ls (.int i :: .ref a :: rest) g cb sb :=
  gh_zald C hg ht (gh_vin j hi hj) hd (by rw [gh_cl9 j hi hj]; exact kk)
theorem gh_laldN (C : gh_X d z mm rm) {t a n : Nat} {K : gh_K} {f : Nat → Int64} {i : Int32} (j : Nat) (hg : g K = some (a, .inl (t, n, .inr (.inl f)))) (ht : gh_ty[t]? = some .long) (hi : i = nI j) (hj : j < n ∧ n < 2 ^ 31) (hd : decode mm.2.1 pc = .ok (.laload, 1)) (kk : gh_W l d z (pc + 1) ls (.long (f j) :: rest) g cb sb) : gh_W l d z pc ls (.int i :: .ref a :: rest) g cb sb :=
  gh_lald C hg ht (gh_vin j hi hj) hd (by rw [gh_cl9 j hi hj]; exact kk)
theorem gh_aaldN (C : gh_X d z mm rm) {t a n : Nat} {C1 : String} {K : gh_K} {f : Nat → Option Nat} {i : Int32} (j : Nat) (hg : g K = some (a, .inl (t, n, .inr (.inr (.inr (.inr f)))))) (ht : gh_ty[t]? = some (.object C1)) (hi : i = nI j) (hj : j < n ∧ n < 2 ^ 31) (hd : decode mm.2.1 pc = .ok (.aaload, 1)) (kk : gh_W l d z (pc + 1) ls (va_rf (f j) :: rest) g cb sb) : gh_W l d z pc ls (.int i :: .ref a :: rest) g cb sb :=
  gh_aald C hg ht (gh_vin j hi hj) hd (by rw [gh_cl9 j hi hj]; exact kk)
theorem gh_iastN (C : gh_X d z mm rm) {t a n : Nat} {K : gh_K} {f : Nat → Int32} {i x : Int32} (j : Nat) (hg : g K = some (a, .inl (t, n, .inl f))) (ht : gh_ty[t]? = some .int) (hi : i = nI j) (hj : j < n ∧ n < 2 ^ 31) (hd : decode mm.2.1 pc = .ok (.iastore, 1)) (kk : gh_W l d z (pc + 1) ls rest (gh_u g K (a, .inl (t, n, .inl (upd f j x)))) cb sb) : gh_W l d z pc ls (.int x :: .int i :: .ref a :: rest) g cb sb :=
  gh_iast C hg ht (gh_vin j hi hj) hd (by rw [gh_cl9 j hi hj]; exact kk)
theorem gh_bastN (C : gh_X d z mm rm) {t a n : Nat} {K : gh_K} {f : Nat → Int32} {i x : Int32} (j : Nat) (hg : g K = some (a, .inl (t, n, .inl f))) (ht : gh_ty[t]? = some .byte) (hi : i = nI j) (hj : j < n ∧ n < 2 ^ 31) (hd : decode mm.2.1 pc = .ok (.bastore, 1)) (kk : gh_W l d z (pc + 1) ls rest (gh_u g K (a, .inl (t, n, .inl (upd f j (vp_nar .byte x))))) cb sb) : gh_W l d z pc ls (.int x :: .int i :: .ref a :: rest) g cb sb :=
  gh_bast C hg ht (gh_vin j hi hj) hd (by rw [gh_cl9 j hi hj]; exact kk)
theorem gh_zastN (C : gh_X d z mm rm) {t a n : Nat} {K : gh_K} {f : Nat → Int32} {i x : Int32} (j : Nat) (hg : g K = some (a, .inl (t, n, .inl f))) (ht : gh_ty[t]? = some .boolean) (hi : i = nI j) (hj : j < n ∧ n < 2 ^ 31) (hd : decode mm.2.1 pc = .ok (.bastore, 1)) (kk : gh_W l d z (pc + 1) ls rest (gh_u g K (a, .inl (t, n, .inl (upd f j (vp_nar .boolean x))))) cb sb) : gh_W l d z pc ls (.int x :: .int i :: .ref a :: rest) g cb sb :=
  gh_zast C hg ht (gh_vin j hi hj) hd (by rw [gh_cl9 j hi hj]; exact kk)
theorem gh_lastN (C : gh_X d z mm rm) {t a n : Nat} {K : gh_K} {f : Nat → Int64} {i : Int32} {x : Int64} (j : Nat) (hg : g K = some (a, .inl (t, n, .inr (.inl f)))) (ht : gh_ty[t]? = some .long) (hi : i = nI j) (hj : j < n ∧ n < 2 ^ 31) (hd : decode mm.2.1 pc = .ok (.lastore, 1)) (kk : gh_W l d z (pc + 1) ls rest (gh_u g K (a, .inl (t, n, .inr (.inl (vp_updL f j x))))) cb sb) : gh_W l d z pc ls (.long x :: .int i :: .ref a :: rest) g cb sb :=
  gh_last C hg ht (gh_vin j hi hj) hd (by rw [gh_cl9 j hi hj]; exact kk)
theorem gh_aastN (C : gh_X d z mm rm) {t a n ci v : Nat} {K Kv : gh_K} {r : vw_C} {fs : List Value} {f : Nat → Option Nat} {i : Int32} (j : Nat) (hg : g K = some (a, .inl (t, n, .inr (.inr (.inr (.inr f)))))) (ht : gh_ty[t]? = some (.object r.1)) (hgv : g Kv = some (v, .inr (ci, fs))) (hc : gh_cl[ci]? = some r) (hi : i = nI j) (hj : j < n ∧ n < 2 ^ 31) (hd : decode mm.2.1 pc = .ok (.aastore, 1)) (kk : gh_W l d z (pc + 1) ls rest (gh_u g K (a, .inl (t, n, .inr (.inr (.inr (.inr (va_up f j (some v)))))))) cb sb) : gh_W l d z pc ls (.ref v :: .int i :: .ref a :: rest) g cb sb :=
  gh_aast C hg ht hgv hc (gh_vin j hi hj) hd (by rw [gh_cl9 j hi hj]; exact kk)
theorem gh_putL (C : gh_X d z mm rm) {index ci k a : Nat} {ty : FieldType} {fin : Bool} {K : gh_K} {fs : List Value} {v : Value} (fs1 : List Value) (hF : gh_FP mm.1.cls index ci k ty fin) (hfi : fin = true → mm.1.name = "<init>") (hg : g K = some (a, .inr (ci, fs))) (hs : fs.set k v = fs1) (hv : k < fs.length) (hn : narrow ty v = v) (hft : fits ty v = true) (hd : decode mm.2.1 pc = .ok (.putfield index, 3)) (kk : gh_W l d z (pc + 3) ls rest (gh_u g K (a, .inr (ci, fs1))) cb sb) : gh_W l d z pc ls (v :: .ref a :: rest) g cb sb :=
  gh_put C hF hfi hg hv hn hft hd (hs ▸ kk)
end GC
end
section
/-! more rows: unsigned shift, wide constants, references that may be null, new arrays, copies and clones, keys that move -/
section GD
variable {l : Launch} {d : gh_D} {z : gh_Z} {mm : gh_M} {rm : Room} {pc : Nat} {ls : List (Option Value)} {rest : List Value} {g : gh_H} {cb sb : Nat}
theorem gh_iushr (C : gh_X d z mm rm) {x y : Int32} (hd : decode mm.2.1 pc = .ok (.iushr, 1)) (k : gh_W l d z (pc + 1) ls (.int (x.toUInt32 >>> (y.toUInt32 &&& Int32.toUInt32 31)).toInt32 :: rest) g cb sb) : gh_W l d z pc ls (.int y :: .int x :: rest) g cb sb := by
  obtain ⟨p, e, R, s, m, args, below, meth, c, nL, Q⟩ := z
  exact fun H locs la ce sl a b h i j => lv_iushr C.1.1 C.1.2.1 hd rfl (k H locs la ce sl a b h i j)
theorem gh_ldcw (C : gh_X d z mm rm) {index : Nat} {v : Int32} (hw : Cond.constant mm.1.cls index v ∈ gh_T) (hd : decode mm.2.1 pc = .ok (.ldc_w index, 3)) (k : gh_W l d z (pc + 3) ls (.int v :: rest) g cb sb) : gh_W l d z pc ls rest g cb sb := by
  obtain ⟨p, e, R, s, m, args, below, meth, c, nL, Q⟩ := z
  exact fun H locs la ce sl a b h i j => lv_ldcw C.1.1 C.1.2.1 C.1.2.2.2.1 (C.1.2.2.2.2 _ hw) hd (k H locs la ce sl a b h i j)
theorem gh_newaI (C : gh_X d z mm rm) {n : Int32} (K : gh_K) (N : Nat) (hn : n = nI N ∧ N ≤ 1000000) (cb1 sb1 : Nat) (h1 : cb1 + 1 ≤ cb) (h2 : sb1 + N ≤ sb) (hd : decode mm.2.1 pc = .ok (.newarray .int, 2)) (kk : ∀ a : Nat, (∀ (k : gh_K) (b : Nat) (x : gh_E), g k = some (b, x) → b ≠ a) → gh_W l d z (pc + 2) ls (.ref a :: rest) (gh_u g K (a, .inl (0, N, .inl (fun _ => 0)))) cb1 sb1) : gh_W l d z pc ls (.int n :: rest) g cb sb := by
  obtain ⟨rfl, hN⟩ := hn
  exact gh_newa C (t := 0) (ty := .int) (N := N) (q0 := (N, .inl (fun _ => 0))) K rfl rfl ac_0 (fun C1 h => by cases h) (fun cA => rfl) (nI_pos (by omega)) (nI_clamp (by omega)) (by show N * 4 ≤ _; omega) cb1 sb1 h1 h2 hd kk
theorem gh_newaB (C : gh_X d z mm rm) {n : Int32} (K : gh_K) (N : Nat) (hn : n = nI N ∧ N ≤ 1000000) (cb1 sb1 : Nat) (h1 : cb1 + 1 ≤ cb) (h2 : sb1 + N ≤ sb) (hd : decode mm.2.1 pc = .ok (.newarray .byte, 2)) (kk : ∀ a : Nat, (∀ (k : gh_K) (b : Nat) (x : gh_E), g k = some (b, x) → b ≠ a) → gh_W l d z (pc + 2) ls (.ref a :: rest) (gh_u g K (a, .inl (1, N, .inl (fun _ => 0)))) cb1 sb1) : gh_W l d z pc ls (.int n :: rest) g cb sb := by
  obtain ⟨rfl, hN⟩ := hn
  exact gh_newa C (t := 1) (ty := .byte) (N := N) (q0 := (N, .inl (fun _ => 0))) K rfl rfl ac_1 (fun C1 h => by cases h) (fun cA => rfl) (nI_pos (by omega)) (nI_clamp (by omega)) (by show N * 1 ≤ _; omega) cb1 sb1 h1 h2 hd kk
theorem gh_newaZ (C : gh_X d z mm rm) {n : Int32} (K : gh_K) (N : Nat) (hn : n = nI N ∧ N ≤ 1000000) (cb1 sb1 : Nat) (h1 : cb1 + 1 ≤ cb) (h2 : sb1 + N ≤ sb) (hd : decode mm.2.1 pc = .ok (.newarray .boolean, 2)) (kk : ∀ a : Nat, (∀ (k : gh_K) (b : Nat) (x : gh_E), g k = some (b, x) → b ≠ a) → gh_W l d z (pc + 2) ls (.ref a :: rest) (gh_u g K (a, .inl (2, N, .inl (fun _ => 0)))) cb1 sb1) : gh_W l d z pc ls (.int n :: rest) g cb sb := by
  obtain ⟨rfl, hN⟩ := hn
  exact gh_newa C (t := 2) (ty := .boolean) (N := N) (q0 := (N, .inl (fun _ => 0))) K rfl rfl ac_2 (fun C1 h => by cases h) (fun cA => rfl) (nI_pos (by omega)) (nI_clamp (by omega)) (by show N * 1 ≤ _; omega) cb1 sb1 h1 h2 hd kk
theorem gh_newaL (C : gh_X d z mm rm) {n : Int32} (K : gh_K) (N : Nat) (hn : n = nI N ∧ N ≤ 1000000) (cb1 sb1 : Nat) (h1 : cb1 + 1 ≤ cb) (h2 : sb1 + N ≤ sb) (hd : decode mm.2.1 pc = .ok (.newarray .long, 2)) (kk : ∀ a : Nat, (∀ (k : gh_K) (b : Nat) (x : gh_E), g k = some (b, x) → b ≠ a) → gh_W l d z (pc + 2) ls (.ref a :: rest) (gh_u g K (a, .inl (3, N, .inr (.inl (fun _ => 0))))) cb1 sb1) : gh_W l d z pc ls (.int n :: rest) g cb sb := by
  obtain ⟨rfl, hN⟩ := hn
  exact gh_newa C (t := 3) (ty := .long) (N := N) (q0 := (N, .inr (.inl (fun _ => 0)))) K rfl rfl ac_3 (fun C1 h => by cases h) (fun cA => rfl) (nI_pos (by omega)) (nI_clamp (by omega)) (by show N * 8 ≤ _; omega) cb1 sb1 h1 h2 hd kk
/-- keys may move: what g1 holds, g holds under some key, two keys of g1 never one cell -/
theorem gh_R.re {H : Heap} {g1 : gh_H} (h : gh_R d g H) (hk : ∀ (k : gh_K) (v : Nat × gh_E), g1 k = some v → ∃ q : gh_K, g q = some v) (hi : ∀ (k1 k2 : gh_K) (v1 v2 : Nat × gh_E), g1 k1 = some v1 → g1 k2 = some v2 → v1.1 = v2.1 → k1 = k2) : gh_R d g1 H :=
  ⟨h.1, h.2.1, fun k a x hx => by
    obtain ⟨q, hq⟩ := hk k _ hx
    exact h.2.2.1 q a x hq, fun k1 k2 a x1 x2 e1 e2 => hi k1 k2 _ _ e1 e2 rfl⟩
theorem gh_re (g1 : gh_H) (hk : ∀ (k : gh_K) (v : Nat × gh_E), g1 k = some v → ∃ q : gh_K, g q = some v) (hi : ∀ (k1 k2 : gh_K) (v1 v2 : Nat × gh_E), g1 k1 = some v1 → g1 k2 = some v2 → v1.1 = v2.1 → k1 = k2) (k : gh_W l d z pc ls rest g1 cb sb) : gh_W l d z pc ls rest g cb sb := by
  obtain ⟨p, e, R, s, m, args, below, meth, c, nL, Q⟩ := z
  exact fun H locs la ce sl a b h i j => k H locs la ce sl (a.re hk hi) b h i j
/-- the cell of key q goes over to key k, whose old cell is forgotten; q is free -/
def gh_mv (g : gh_H) (q k : gh_K) : gh_H := fun r => if r = k then g q else if r = q then none else g r
theorem gh_mv_k {q k : gh_K} : gh_mv g q k k = g q := if_pos rfl
theorem gh_mv_o {q k r : gh_K} (h1 : r ≠ k) (h2 : r ≠ q) : gh_mv g q k r = g r := by unfold gh_mv; rw [if_neg h1, if_neg h2]
theorem gh_move (C : gh_X d z mm rm) (q k : gh_K) (kk : gh_W l d z pc ls rest (gh_mv g q k) cb sb) : gh_W l d z pc ls rest g cb sb := by
  obtain ⟨p, e, R, s, m, args, below, meth, c, nL, Q⟩ := z
  intro H locs la ce sl a b h i j
  refine kk H locs la ce sl (a.re (fun k1 v1 h1 => ?_) (fun k1 k2 v1 v2 h1 h2 he => ?_)) b h i j
  · unfold gh_mv at h1
    split at h1
    · exact ⟨q, h1⟩
    · split at h1
      · cases h1
      · exact ⟨k1, h1⟩
  · obtain ⟨a1, x1⟩ := v1
    obtain ⟨a2, x2⟩ := v2
    have he : a1 = a2 := he
    subst he
    unfold gh_mv at h1 h2
    split at h1
    · rename_i e1
      split at h2
      · rename_i e2
        rw [e1, e2]
      · rename_i e2
        split at h2
        · cases h2
        · rename_i e3
          exact absurd (a.2.2.2 q k2 a1 x1 x2 h1 h2) (fun e => e3 e.symm)
    · rename_i e1
      split at h1
      · cases h1
      · rename_i e3
        split at h2
        · exact absurd (a.2.2.2 k1 q a1 x1 x2 h1 h2) e3
        · rename_i e4
          split at h2
          · cases h2
          · exact a.2.2.2 k1 k2 a1 x1 x2 h1 h2
end GD
/-! frames by kinds of keys -/
def fr (P : Nat → Bool) (g g1 : gh_H) : Prop := ∀ k : gh_K, P k.1 = false → g1 k = g k
theorem fr.rf {P : Nat → Bool} {g : gh_H} : fr P g g := fun _ _ => rfl
theorem fr.u {P : Nat → Bool} {g g1 : gh_H} {k : gh_K} {v : Nat × gh_E} (h : fr P g g1) (hk : P k.1 = true) : fr P g (gh_u g1 k v) := fun q hq => by
  rw [gh_un (fun e => by rw [e, hk] at hq; cases hq)]; exact h q hq
theorem fr.mv {P : Nat → Bool} {g g1 : gh_H} {q k : gh_K} (h : fr P g g1) (hq : P q.1 = true) (hk : P k.1 = true) : fr P g (gh_mv g1 q k) := fun r hr => by
  rw [gh_mv_o (fun e => by rw [e, hk] at hr; cases hr) (fun e => by rw [e, hq] at hr; cases hr)]; exact h r hr
theorem fr.trans {P : Nat → Bool} {g g1 g2 : gh_H} (h : fr P g g1) (h2 : fr P g1 g2) : fr P g g2 := fun k hk => (h2 k hk).trans (h k hk)
theorem fr.weak {P P1 : Nat → Bool} {g g1 : gh_H} (h : fr P g g1) (hP : ∀ k, P1 k = false → P k = false) : fr P1 g g1 := fun k hk => h k (hP _ hk)
theorem fr.at {P : Nat → Bool} {g g1 : gh_H} (h : fr P g g1) {k : gh_K} {v : Nat × gh_E} (hk : P k.1 = false) (hg : g k = some v) : g1 k = some v := (h k hk).trans hg
end
section
/-! System.arraycopy and clone of an array -/
section GE
variable {l : Launch} {d : gh_D} {z : gh_Z} {mm : gh_M} {rm : Room} {pc : Nat} {ls : List (Option Value)} {rest : List Value} {g : gh_H} {cb sb : Nat}
theorem gh_nn (x : Int32) (h : ¬ x < 0) : x.toInt = (x.toNatClampNeg : Int) := by
  have h0 : (0 : Int) ≤ x.toInt := by simpa using Int32.le_iff_toInt_le.mp (Int32.not_lt.mp h)
  show x.toInt = ((x.toInt.toNat : Nat) : Int)
  omega
theorem gh_copy (C : gh_X d z mm rm) {index t a0 a n0 n1 : Nat} {K0 K1 : gh_K} {f f1 : Nat → Int32} {ty : FieldType} {sp dp n : Int32} (hl : Cond.methodLink mm.1.cls index arraycopyName ∈ gh_T) (hna : Cond.native arraycopyName ∈ gh_T) (hst : Cond.static arraycopyName ∈ gh_T) (hin : Cond.initialized "java/lang/System" ∈ gh_T)
    (hg0 : g K0 = some (a0, .inl (t, n0, .inl f))) (hg1 : g K1 = some (a, .inl (t, n1, .inl f1))) (ht : gh_ty[t]? = some ty) (hprim : refKind ty = false) (h1 : ¬ sp < 0) (h2 : ¬ dp < 0) (h3 : ¬ n < 0) (h4 : sp.toNatClampNeg + n.toNatClampNeg ≤ n0) (h5 : dp.toNatClampNeg + n.toNatClampNeg ≤ n1) (hfit : ∀ i, i < n.toNatClampNeg → fits ty (.int (f (sp.toNatClampNeg + i))) = true)
    (hf : 1 ≤ rm.frames ∧ 8 + (nativeFrameWords "java/lang/System" "arraycopy" 5 + 11) ≤ rm.locals) (hcat : (rest.map fun v => v.category).sum ≤ 8) (hd : decode mm.2.1 pc = .ok (.invokestatic index, 3))
    (kk : gh_W l d z (pc + 3) ls rest (gh_u g K1 (a, .inl (t, n1, .inl (va_cpy f f1 sp.toNatClampNeg dp.toNatClampNeg n.toNatClampNeg)))) cb sb) : gh_W l d z pc ls (.int n :: .int dp :: .ref a :: .int sp :: .ref a0 :: rest) g cb sb := by
  obtain ⟨p, e, R, s, m, args, below, meth, c, nL, Q⟩ := z
  obtain ⟨⟨hx, hb, hml, hown, hts⟩, hr, hlk, hK, hR, hnm⟩ := C
  subst hR
  intro H locs la ce sl hG hlo hL i9 j9 T hT X
  obtain ⟨hat0, -⟩ := hG.2.2.1 K0 a0 _ hg0
  obtain ⟨hat1, hla⟩ := hG.2.2.1 K1 a _ hg1
  have hc0 : H[a0]? = some (vp_cell (d.2.1 t) (n0, .inl f)) := hat0
  have hc1 : H[a]? = some (vp_cell (d.2.1 t) (n1, .inl f1)) := hat1
  obtain ⟨-, k0, hk0, cm0, hkk0⟩ := (hK.2.1 t _ ht).1 n0 (fun j => .int (f j))
  obtain ⟨-, k1, hk1, cm1, hkk1⟩ := (hK.2.1 t _ ht).1 n1 (fun j => .int (f1 j))
  obtain ⟨vm', X', step⟩ := X.arraycopy hx hown (hts _ hl) (hts _ hna) (hts _ hst) (hts _ hin) (src := a0) (dst := a) (cs := vp_cell (d.2.1 t) (n0, .inl f)) (cd := vp_cell (d.2.1 t) (n1, .inl f1)) (srcPos := sp) (destPos := dp) (n := n) (by rw [hT]; exact hc0) (by rw [hT]; exact hc1)
    (fun _ h => by cases h) (fun _ h => by cases h) (fun h => by cases h) (fun h => by cases h) hk0 hk1 hkk0 hkk1 (by simp [hprim]) h1 h2 h3
    (by rw [gh_nn sp h1, gh_nn n h3]; show ¬ _ > ((arrV (d.2.1 t) n0 (fun j => .int (f j))).slots.size : Int); rw [arrV_size]; omega)
    (by rw [gh_nn dp h2, gh_nn n h3]; show ¬ _ > ((arrV (d.2.1 t) n1 (fun j => .int (f1 j))).slots.size : Int); rw [arrV_size]; omega)
    (fun vm₁ _ i hi => by
      have e : (vp_cell (d.2.1 t) (n0, .inl f)).slots.getD (sp.toNatClampNeg + i) .null = .int (f (sp.toNatClampNeg + i)) := by
        show (arrV (d.2.1 t) n0 (fun j => .int (f j))).slots.getD _ _ = _
        rw [Array.getD_eq_getD_getElem?, arrV_read _ _ (by omega)]
        rfl
      refine ⟨?_, ?_⟩
      · rw [e]; exact hfit i hi
      · rw [e]; exact trivial)
    (g := F0 m pc la (.int n :: .int dp :: .ref a :: .int sp :: .ref a0 :: rest)) rfl (hL.1.trans hml.symm) (rest := rest) rfl (by rw [hb]; exact hd) hf.1 (by show 2 * 0 + _ + _ ≤ _; omega)
  have e1 : copied (vp_cell (d.2.1 t) (n0, .inl f)) (vp_cell (d.2.1 t) (n1, .inl f1)) sp dp n = vp_cell (d.2.1 t) (n1, .inl (va_cpy f f1 sp.toNatClampNeg dp.toNatClampNeg n.toNatClampNeg)) := va_copied (fun z => .int z) (d.2.1 t) (d.2.1 t) f f1 h4
  rw [e1] at X' step
  have hl9 : a < H.size := (Array.getElem?_eq_some_iff.mp hc1).1
  have hheap : ((T.setVm vm').setCell a (vp_cell (d.2.1 t) (n1, .inl (va_cpy f f1 sp.toNatClampNeg dp.toNatClampNeg n.toNatClampNeg)))).heap = H.setIfInBounds a (vp_cell (d.2.1 t) (n1, .inl (va_cpy f f1 sp.toNatClampNeg dp.toNatClampNeg n.toNatClampNeg))) := by rw [← hT]; rfl
  obtain ⟨t9, a1, b1⟩ := kk _ _ la ce sl (hG.put (H1 := H.setIfInBounds a (vp_cell (d.2.1 t) (n1, .inl (va_cpy f f1 sp.toNatClampNeg dp.toNatClampNeg n.toNatClampNeg)))) hg1 (by simp) (fun q hq => by simp [Array.getElem?_setIfInBounds, Ne.symm hq]) (show (H.setIfInBounds a _)[a]? = some _ by simp [Array.getElem?_setIfInBounds, hl9])) (fun q hq => by
      rcases List.mem_append.mp hq with h | h
      · exact hlo q h
      · obtain ⟨y, -, hy⟩ := List.mem_map.mp h
        rw [← hy]
        exact hla) hL i9 j9 _ hheap X'
  exact ⟨t9, step t9 a1, b1⟩
theorem gh_clone (C : gh_X d z mm rm) {index t a : Nat} {K : gh_K} {x : vp_A} {ty : FieldType} {ad : String} (K1 : gh_K) (hl : Cond.methodLink mm.1.cls index ⟨ad, "clone", "()Ljava/lang/Object;"⟩ ∈ gh_T) (hsame : Cond.sameMethod ad "java/lang/Object" "clone" "()Ljava/lang/Object;" ∈ gh_T) (hna : Cond.native ⟨"java/lang/Object", "clone", "()Ljava/lang/Object;"⟩ ∈ gh_T) (hinst : Cond.instanceMethod ⟨"java/lang/Object", "clone", "()Ljava/lang/Object;"⟩ ∈ gh_T)
    (hsel : Cond.selects ad ⟨ad, "clone", "()Ljava/lang/Object;"⟩ ⟨"java/lang/Object", "clone", "()Ljava/lang/Object;"⟩ ∈ gh_T) (hcl : Cond.castable ad "java/lang/Cloneable" ∈ gh_nw) (hg : g K = some (a, .inl (t, x))) (ht : gh_ty[t]? = some ty) (hp : ∀ C1 : String, ty ≠ .object C1) (had : "[" ++ ty.toString = ad) (hfit : ∀ (cA : ClassId) (i : Nat) (v : Value), (vp_cell cA x).slots[i]? = some v → fits ty v = true)
    (hf : 1 ≤ rm.frames ∧ 22 ≤ rm.locals) (hcat : (rest.map fun v => v.category).sum ≤ 8) (cb1 sb1 : Nat) (h1 : cb1 + 1 ≤ cb) (h2 : sb1 + x.1 ≤ sb) (hd : decode mm.2.1 pc = .ok (.invokevirtual index, 3))
    (kk : ∀ q : Nat, (∀ (k : gh_K) (b : Nat) (y : gh_E), g k = some (b, y) → b ≠ q) → gh_W l d z (pc + 3) ls (.ref q :: rest) (gh_u g K1 (q, .inl (t, x))) cb1 sb1) : gh_W l d z pc ls (.ref a :: rest) g cb sb := by
  obtain ⟨p, e, R, s, m, args, below, meth, c, nL, Q⟩ := z
  obtain ⟨⟨hx, hb, hml, hown, hts⟩, hr, hlk, hK, hR, hnm⟩ := C
  subst hR
  intro H locs la ce sl hG hlo hL i9 j9 T hT X
  have hsz : (vp_cell (d.2.1 t) x).slots.size = x.1 := by
    obtain ⟨n, f | f | f | f | f⟩ := x <;> exact arrV_size _ _ _
  have hvm0 : (vp_cell (d.2.1 t) x).vm = .none := by
    obtain ⟨n, f | f | f | f | f⟩ := x <;> rfl
  have hcl0 : (vp_cell (d.2.1 t) x).cls = d.2.1 t := by
    obtain ⟨n, f | f | f | f | f⟩ := x <;> rfl
  have hcellE : ({ cls := (vp_cell (d.2.1 t) x).cls, slots := (vp_cell (d.2.1 t) x).slots } : Cell) = vp_cell (d.2.1 t) x := by
    obtain ⟨n, f | f | f | f | f⟩ := x <;> rfl
  have hname : s.vm.findClass ad = some (d.2.1 t) := by
    have h9 := (hK.2.1 t _ ht).2
    rw [← had]
    cases ty with
    | object C1 => exact absurd rfl (hp C1)
    | _ => exact h9
  obtain ⟨c0, t0', f1, f2, f3⟩ := Cond.castable_spec (va_Nw.use (A := args) rfl (hK.2.2 _ hcl))
  cases hname.symm.trans f1
  obtain ⟨hat, -⟩ := hG.2.2.1 K a _ hg
  have hcellT : T.heap[a]? = some (vp_cell (d.2.1 t) x) := by rw [hT]; exact hat
  obtain ⟨-, kA, hkA, comp, hkind⟩ := State.isArrayOf_alike X.warmed.alike ((hK.2.1 t _ ht).1 0 (fun _ => .null))
  obtain ⟨-, kS, hkS, compS, hkindS⟩ := (hK.2.1 t _ ht).1 0 (fun _ => .null)
  obtain ⟨vm', X', st⟩ := X.cloneArray hx hown (hts _ hl) (hts _ hsame) (hts _ hna) (hts _ hinst) (hts _ hsel) (a := a) (cell := vp_cell (d.2.1 t) x) hcellT (fun k h => by rw [hvm0] at h; cases h) (by rw [hvm0]; exact fun h => by cases h) (by rw [hcl0]; exact hname) f2 (by rw [hcl0]; exact f3)
    (fun i v hv => by
      rw [hcl0]
      have hk' : T.vm.classes[d.2.1 t]? = some kA := hkA
      simpa [State.fitsSlot, State.slotType?, hk', hkind] using hfit _ i v hv)
    (g := F0 m pc la (.ref a :: rest)) rfl (hL.1.trans hml.symm) rfl (by rw [hb]; exact hd) hf.1 (by show 2 * 0 + _ + 14 ≤ _; omega) (by omega) (by rw [hsz]; omega) (hloader := by rw [hcl0]; exact Vm.clonesLoader_of_array hkS hkindS)
  rw [hcellE, hsz] at X'
  generalize hH1 : H.push (vp_cell (d.2.1 t) x) = H1
  have z1 : H1.size = H.size + 1 := by rw [← hH1, Array.size_push]
  have e1 : H1[H.size]? = some (vp_cell (d.2.1 t) x) := by rw [← hH1, Array.getElem?_push_size]
  have o1 : ∀ q : Nat, q < H.size → H1[q]? = H[q]? := fun q hq => by rw [← hH1, Array.getElem?_push, if_neg (Nat.ne_of_lt hq)]
  obtain ⟨t9, b1, b2⟩ := kk H.size (fun k b y hk => Nat.ne_of_lt (hG.2.2.1 k b y hk).1.lt) H1 locs la (ce + 1) (sl + x.1) (hG.push z1 o1 e1) hlo hL (by omega) (by omega) ((T.setVm vm').pushCell (vp_cell (d.2.1 t) x)) (by rw [← hH1, ← hT]; rfl) X'
  refine ⟨t9, st t9 ?_, b2⟩
  rw [hcellE, hT]
  exact b1
theorem gh_castA (C : gh_X d z mm rm) {index t a : Nat} {K : gh_K} {x : vp_A} {ty : FieldType} {ad : String} (hl : Cond.classLink mm.1.cls index ad ∈ gh_T) (hg : g K = some (a, .inl (t, x))) (ht : gh_ty[t]? = some ty) (hp : ∀ C1 : String, ty ≠ .object C1) (had : "[" ++ ty.toString = ad) (hd : decode mm.2.1 pc = .ok (.checkcast index, 3)) (kk : gh_W l d z (pc + 3) ls (.ref a :: rest) g cb sb) : gh_W l d z pc ls (.ref a :: rest) g cb sb := by
  obtain ⟨p, e, R, s, m, args, below, meth, c, nL, Q⟩ := z
  obtain ⟨⟨hx, hb, hml, hown, hts⟩, hr, hlk, hK, hR, hnm⟩ := C
  have hname : s.vm.findClass ad = some (d.2.1 t) := by
    have h9 := (hK.2.1 t _ ht).2
    rw [← had]
    cases ty with
    | object C1 => exact absurd rfl (hp C1)
    | _ => exact h9
  exact fun H locs la ce sl hG hlo hL i j => va_castA hx hb hown (hts _ hl) (hG.at hg) 0 rfl hname hd (kk H locs la ce sl hG hlo hL i j)
theorem xM_l : Cond.code Lib.Math.min.name Lib.Math.min.code 2 (some .int) ∈ gh_T := gh_in 239 (by decide +kernel) rfl
theorem xM_s : Cond.static Lib.Math.min.name ∈ gh_T := gh_in 238 (by decide +kernel) rfl
theorem xM_i : Cond.initialized "java/lang/Math" ∈ gh_T := gh_in 67 (by decide +kernel) rfl
theorem xX_l : Cond.code Lib.Math.max.name Lib.Math.max.code 2 (some .int) ∈ gh_T := gh_in 702 (by decide +kernel) rfl
theorem xX_s : Cond.static Lib.Math.max.name ∈ gh_T := gh_in 701 (by decide +kernel) rfl
theorem gh_min (C : gh_X d z mm rm) {index : Nat} (x y : Nat) (hxy : x ≤ y) (hy : y < 2 ^ 31) (hl : Cond.methodLink mm.1.cls index Lib.Math.min.name ∈ gh_T) (hf : 1 ≤ rm.frames ∧ 21 ≤ rm.locals) (hcat : (rest.map fun v => v.category).sum ≤ 8) (hd : decode mm.2.1 pc = .ok (.invokestatic index, 3)) (kk : gh_W l d z (pc + 3) ls (.int (nI x) :: rest) g cb sb) : gh_W l d z pc ls (.int (nI y) :: .int (nI x) :: rest) g cb sb := by
  obtain ⟨p, e, R, s, m, args, below, meth, c, nL, Q⟩ := z
  obtain ⟨⟨hx, hb, hml, hown, hts⟩, hr, hlk, hK, hR, hnm⟩ := C
  subst hR
  intro H locs la ce sl hG hlo hL i j
  refine va_mmin hx hb (hml.trans hL.1.symm) hown (hts _ hl) (hts _ xM_s) (hts _ xM_i) (hts _ xM_l) hf.1 (by omega) (by omega) (by omega) hd ?_
  have e : (if nI y < nI x then nI y else nI x) = nI x := if_neg (nI_nlt hxy hy)
  first | (rw [e]; exact kk H locs la ce sl hG hlo hL i j) | (rw [show (if nI x < nI y then nI x else nI y) = nI x from by by_cases h : nI x < nI y; · rw [if_pos h]; · rw [if_neg h]; exact ((nI_eq (by omega) hy).mpr (Nat.le_antisymm hxy (Nat.not_lt.mp (fun q => h (nI_lt q hy))))).symm]; exact kk H locs la ce sl hG hlo hL i j)
theorem gh_max (C : gh_X d z mm rm) {index : Nat} (x y : Nat) (hxy : y ≤ x) (hx9 : x < 2 ^ 31) (hl : Cond.methodLink mm.1.cls index Lib.Math.max.name ∈ gh_T) (hf : 1 ≤ rm.frames ∧ 21 ≤ rm.locals) (hcat : (rest.map fun v => v.category).sum ≤ 8) (hd : decode mm.2.1 pc = .ok (.invokestatic index, 3)) (kk : gh_W l d z (pc + 3) ls (.int (nI x) :: rest) g cb sb) : gh_W l d z pc ls (.int (nI y) :: .int (nI x) :: rest) g cb sb := by
  obtain ⟨p, e, R, s, m, args, below, meth, c, nL, Q⟩ := z
  obtain ⟨⟨hx, hb, hml, hown, hts⟩, hr, hlk, hK, hR, hnm⟩ := C
  subst hR
  intro H locs la ce sl hG hlo hL i j
  refine va_mmax hx hb (hml.trans hL.1.symm) hown (hts _ hl) (hts _ xX_s) (hts _ xM_i) (hts _ xX_l) hf.1 (by omega) (by omega) (by omega) hd ?_
  rw [show (if nI x < nI y then nI y else nI x) = nI x from if_neg (nI_nlt hxy hx9)]
  exact kk H locs la ce sl hG hlo hL i j
end GE
end
section
/-! TREES. A tree of number e (key (13, e)): depth D, keys K, born B, unmerged U (keys (14, e), (15, e), (16, e)) -/
def tW (D : Nat) : Nat := 2 ^ (D + 1) - 1
def pn (a h : Nat) : Nat := a / 2 ^ h * 2 ^ (h + 1) + 2 ^ h - 1
def thr (D : Nat) (x : Int32) : Bool := decide (0 ≤ x) && decide (x < nI (tW D))
theorem thr_w : ∀ D, D ≤ 4 → ((2 : Int32) <<< (nI D &&& 31)) - 1 = nI (tW D) := by decide +kernel
theorem pn_w : ∀ h, h ≤ 4 → ∀ a, a < 16 → ((nI a >>> (nI h &&& 31)) <<< ((nI h + 1) &&& 31)) + ((1 : Int32) <<< (nI h &&& 31)) - 1 = nI (pn a h) := by decide +kernel
theorem pn_lt : ∀ h, h ≤ 4 → ∀ a, a < 16 → pn a h < 31 := by decide +kernel
theorem tW_le {D : Nat} (h : D ≤ 4) : tW D ≤ 31 := by
  have : ∀ D, D ≤ 4 → tW D ≤ 31 := by decide +kernel
  exact this D h
theorem thr_of {D : Nat} {x : Int32} (hD : D ≤ 4) (h : thr D x = true) : ∃ j : Nat, j < tW D ∧ x = nI j := by
  simp only [thr, Bool.and_eq_true, decide_eq_true_eq] at h
  have h1 := tW_le hD
  rcases pk_ix x (n := tW D) (by omega) with h2 | h2 | h2
  · exact absurd h.1 (Int32.not_le.mpr h2)
  · exact absurd h.2 (Int32.not_lt.mpr h2)
  · exact h2
theorem thr_n {D j : Nat} (hD : D ≤ 4) (hj : j < 2 ^ 31) : thr D (nI j) = decide (j < tW D) := by
  have h1 := tW_le hD
  have h2 : (0 : Int32) ≤ nI j := nI_pos' (by omega)
  simp [thr, h2, nI_ltI (show j < 2 ^ 31 by omega) (show tW D < 2 ^ 31 by omega)]
def pT (g : gh_H) (e D t ka ba ua : Nat) (K B U : Nat → Int32) : Prop := g (13, e) = some (t, .inr (4, [.int (nI D), .ref ka, .ref ba, .ref ua])) ∧ g (14, e) = some (ka, .inl (0, 31, .inl K)) ∧ g (15, e) = some (ba, .inl (0, 31, .inl B)) ∧ g (16, e) = some (ua, .inl (0, 31, .inl U)) ∧ D ≤ 4
def tkey (D : Nat) (K : Nat → Int32) (x : Int32) : Int32 := if thr D x = true then K x.toNatClampNeg else -1
def tset (g : gh_H) (e ka ba ua : Nat) (K B U : Nat → Int32) : gh_H := gh_u (gh_u (gh_u g (14, e) (ka, .inl (0, 31, .inl K))) (15, e) (ba, .inl (0, 31, .inl B))) (16, e) (ua, .inl (0, 31, .inl U))
theorem tset_self {g : gh_H} {e D t ka ba ua : Nat} {K B U : Nat → Int32} (h : pT g e D t ka ba ua K B U) : tset g e ka ba ua K B U = g := by
  unfold tset
  rw [gh_uself h.2.1, gh_uself h.2.2.1, gh_uself h.2.2.2.1]
theorem tset_pT {g : gh_H} {e D t ka ba ua : Nat} {K B U : Nat → Int32} (h : pT g e D t ka ba ua K B U) (K1 B1 U1 : Nat → Int32) : pT (tset g e ka ba ua K1 B1 U1) e D t ka ba ua K1 B1 U1 := by
  unfold tset
  refine ⟨?_, ?_, ?_, gh_us, h.2.2.2.2⟩
  · rw [gh_un (gh_kd (by decide)), gh_un (gh_kd (by decide)), gh_un (gh_kd (by decide))]; exact h.1
  · rw [gh_un (gh_kd (by decide)), gh_un (gh_kd (by decide)), gh_us]
  · rw [gh_un (gh_kd (by decide)), gh_us]
theorem tset_tset (g : gh_H) (e ka ba ua : Nat) (K B U K1 B1 U1 : Nat → Int32) : tset (tset g e ka ba ua K B U) e ka ba ua K1 B1 U1 = tset g e ka ba ua K1 B1 U1 := by
  unfold tset
  funext q
  unfold gh_u
  by_cases h1 : q = (16, e) <;> by_cases h2 : q = (15, e) <;> by_cases h3 : q = (14, e) <;> simp_all
set_option maxRecDepth 100000 in
set_option maxHeartbeats 4000000 in
theorem c_bit (l : Launch) (d : gh_D) (g : gh_H) (x : Int32) : gh_C l d mG_bit (rr 0 0 0) [.int x] g (fun v g1 => v = some (.int (1 <<< (x &&& 31))) ∧ g1 = g) := by
  refine gh_of [some (.int x)] (by decide) rfl (Nat.le_of_ble_eq_true rfl) (by simp [Value.category]) (fun z C hQ => ?_)
  show gh_W l d z 0 [some (.int x)] [] g 0 0
  refine gh_iconst C 1 dG_bit_0 (by decide) ?_
  refine gh_iload_n C dG_bit_1 rfl ?_
  refine gh_ishl C dG_bit_2 ?_
  refine gh_iret C hQ rfl dG_bit_3 ?_
  exact ⟨rfl, rfl⟩
set_option maxRecDepth 100000 in
set_option maxHeartbeats 4000000 in
theorem c_leafNode (l : Launch) (d : gh_D) (g : gh_H) (x : Int32) : gh_C l d mG_leafNode (rr 0 0 0) [.int x] g (fun v g1 => v = some (.int (2 * x)) ∧ g1 = g) := by
  refine gh_of [some (.int x)] (by decide) rfl (Nat.le_of_ble_eq_true rfl) (by simp [Value.category]) (fun z C hQ => ?_)
  show gh_W l d z 0 [some (.int x)] [] g 0 0
  refine gh_iconst C 2 dG_leafNode_0 (by decide) ?_
  refine gh_iload_n C dG_leafNode_1 rfl ?_
  refine gh_imul C dG_leafNode_2 ?_
  refine gh_iret C hQ rfl dG_leafNode_3 ?_
  exact ⟨rfl, rfl⟩
set_option maxRecDepth 100000 in
set_option maxHeartbeats 4000000 in
theorem c_pathNode (l : Launch) (d : gh_D) (g : gh_H) (a h : Nat) (ha : a < 16) (hh : h ≤ 4) : gh_C l d mG_pathNode (rr 0 0 0) [.int (nI a), .int (nI h)] g (fun v g1 => v = some (.int (nI (pn a h))) ∧ g1 = g) := by
  refine gh_of [some (.int (nI a)), some (.int (nI h))] (by decide) rfl (Nat.le_of_ble_eq_true rfl) (by simp [Value.category]) (fun z C hQ => ?_)
  show gh_W l d z 0 [some (.int (nI a)), some (.int (nI h))] [] g 0 0
  refine gh_iload_n C dG_pathNode_0 rfl ?_
  refine gh_iload_n C dG_pathNode_1 rfl ?_
  refine gh_ishr C dG_pathNode_2 ?_
  refine gh_iload_n C dG_pathNode_3 rfl ?_
  refine gh_iconst C 1 dG_pathNode_4 (by decide) ?_
  refine gh_iadd C dG_pathNode_5 ?_
  refine gh_ishl C dG_pathNode_6 ?_
  refine gh_iconst C 1 dG_pathNode_7 (by decide) ?_
  refine gh_iload_n C dG_pathNode_8 rfl ?_
  refine gh_ishl C dG_pathNode_9 ?_
  refine gh_iadd C dG_pathNode_10 ?_
  refine gh_iconst C 1 dG_pathNode_11 (by decide) ?_
  refine gh_isub C dG_pathNode_12 ?_
  refine gh_iret C hQ rfl dG_pathNode_13 ?_
  exact ⟨by rw [← pn_w h hh a ha], rfl⟩
set_option maxRecDepth 100000 in
set_option maxHeartbeats 4000000 in
theorem c_isThere (l : Launch) (d : gh_D) (g : gh_H) {e D t ka ba ua : Nat} {K B U : Nat → Int32} (hp : pT g e D t ka ba ua K B U) (x : Int32) : gh_C l d mT_isThere (rr 0 0 0) [.ref t, .int x] g (fun v g1 => v = some (.int (if thr D x = true then 1 else 0)) ∧ g1 = g) := by
  refine gh_of [some (.ref t), some (.int x)] (by decide) rfl (Nat.le_of_ble_eq_true rfl) (by simp [Value.category]) (fun z C hQ => ?_)
  show gh_W l d z 0 [some (.ref t), some (.int x)] [] g 0 0
  refine gh_iload_n C dT_isThere_0 rfl ?_
  refine gh_if_lt C 20 dT_isThere_1 (by decide) (fun c1 => ?_) (fun c1 => ?_)
  ·
    refine gh_iconst C 0 dT_isThere_20 (by decide) ?_
    refine gh_zret C hQ rfl (by simp) dT_isThere_21 ?_
    exact ⟨by first | (rw [if_pos (by simp only [thr, Bool.and_eq_true, decide_eq_true_eq]; exact ⟨Int32.not_lt.mp c1, Int32.not_le.mp c13⟩)]; done) | (rw [if_neg (by simp only [thr, Bool.and_eq_true, decide_eq_true_eq]; exact fun h => absurd h.1 (Int32.not_le.mpr c1))]; done) | (rw [if_neg (by simp only [thr, Bool.and_eq_true, decide_eq_true_eq]; exact fun h => absurd h.2 (Int32.not_lt.mpr c13))]; done), rfl⟩
  ·
    refine gh_iload_n C dT_isThere_4 rfl ?_
    refine gh_iconst C 2 dT_isThere_5 (by decide) ?_
    refine gh_aload_n C dT_isThere_6 rfl ?_
    refine gh_get C fT_27 hp.1 rfl dT_isThere_7 ?_
    refine gh_ishl C dT_isThere_10 ?_
    refine gh_iconst C 1 dT_isThere_11 (by decide) ?_
    refine gh_isub C dT_isThere_12 ?_
    refine gh_ti (nI (tW D)) (thr_w D hp.2.2.2.2) ?_
    refine gh_icmp_ge C 20 dT_isThere_13 (by decide) (fun c13 => ?_) (fun c13 => ?_)
    ·
      refine gh_iconst C 0 dT_isThere_20 (by decide) ?_
      refine gh_zret C hQ rfl (by simp) dT_isThere_21 ?_
      exact ⟨by first | (rw [if_pos (by simp only [thr, Bool.and_eq_true, decide_eq_true_eq]; exact ⟨Int32.not_lt.mp c1, Int32.not_le.mp c13⟩)]; done) | (rw [if_neg (by simp only [thr, Bool.and_eq_true, decide_eq_true_eq]; exact fun h => absurd h.1 (Int32.not_le.mpr c1))]; done) | (rw [if_neg (by simp only [thr, Bool.and_eq_true, decide_eq_true_eq]; exact fun h => absurd h.2 (Int32.not_lt.mpr c13))]; done), rfl⟩
    ·
      refine gh_iconst C 1 dT_isThere_16 (by decide) ?_
      refine gh_goto C 21 dT_isThere_17 (by decide) ?_
      refine gh_zret C hQ rfl (by simp) dT_isThere_21 ?_
      exact ⟨by first | (rw [if_pos (by simp only [thr, Bool.and_eq_true, decide_eq_true_eq]; exact ⟨Int32.not_lt.mp c1, Int32.not_le.mp c13⟩)]; done) | (rw [if_neg (by simp only [thr, Bool.and_eq_true, decide_eq_true_eq]; exact fun h => absurd h.1 (Int32.not_le.mpr c1))]; done) | (rw [if_neg (by simp only [thr, Bool.and_eq_true, decide_eq_true_eq]; exact fun h => absurd h.2 (Int32.not_lt.mpr c13))]; done), rfl⟩
set_option maxRecDepth 100000 in
set_option maxHeartbeats 4000000 in
theorem c_keyOf (l : Launch) (d : gh_D) (g : gh_H) {e D t ka ba ua : Nat} {K B U : Nat → Int32} (hp : pT g e D t ka ba ua K B U) (x : Int32) : gh_C l d mT_keyOf (rr 1 0 0) [.ref t, .int x] g (fun v g1 => v = some (.int (if thr D x = true then K x.toNatClampNeg else -1)) ∧ g1 = g) := by
  refine gh_of [some (.ref t), some (.int x)] (by decide) rfl (Nat.le_of_ble_eq_true rfl) (by simp [Value.category]) (fun z C hQ => ?_)
  show gh_W l d z 0 [some (.ref t), some (.int x)] [] g 0 0
  refine gh_aload_n C dT_keyOf_0 rfl ?_
  refine gh_iload_n C dT_keyOf_1 rfl ?_
  refine gh_callV C [.int x] (c_isThere l d g hp x) lT_35 wT_isThere vT_isThere hp.1 rfl rfl rfl (Nat.le_of_ble_eq_true rfl) ⟨Nat.le_of_ble_eq_true rfl, Nat.le_of_ble_eq_true rfl⟩ (Nat.le_of_ble_eq_true rfl) (Nat.le_of_ble_eq_true rfl) dT_keyOf_2 (fun v2 g2 h2 => ?_)
  obtain ⟨rfl, rfl⟩ := h2
  refine gh_if_eq C 17 dT_keyOf_5 (by decide) (fun c5 => ?_) (fun c5 => ?_)
  ·
    have hx : ¬ thr D x = true := fun h => by rw [if_pos h] at c5; exact absurd c5 (by decide)
    refine gh_iconst C (-1) dT_keyOf_17 (by decide) ?_
    refine gh_iret C hQ rfl dT_keyOf_18 ?_
    exact ⟨by first | (rw [if_neg hx]; done) | (rw [if_pos hx, nI_clamp (by omega)]; done), rfl⟩
  ·
    have hx : thr D x = true := by
      by_cases h : thr D x = true
      · exact h
      · rw [if_neg h] at c5; exact absurd rfl c5
    obtain ⟨j, hj, rfl⟩ := thr_of hp.2.2.2.2 hx
    have h31 := tW_le hp.2.2.2.2
    refine gh_aload_n C dT_keyOf_8 rfl ?_
    refine gh_get C fT_9 hp.1 rfl dT_keyOf_9 ?_
    refine gh_iload_n C dT_keyOf_12 rfl ?_
    refine gh_ialdN C (j) hp.2.1 rfl rfl ⟨by omega, by decide⟩ dT_keyOf_13 ?_
    refine gh_goto C 18 dT_keyOf_14 (by decide) ?_
    refine gh_iret C hQ rfl dT_keyOf_18 ?_
    exact ⟨by first | (rw [if_neg hx]; done) | (rw [if_pos hx, nI_clamp (by omega)]; done), rfl⟩
set_option maxRecDepth 100000 in
set_option maxHeartbeats 4000000 in
theorem c_bornAt (l : Launch) (d : gh_D) (g : gh_H) {e D t ka ba ua : Nat} {K B U : Nat → Int32} (hp : pT g e D t ka ba ua K B U) (x : Int32) : gh_C l d mT_bornAt (rr 1 0 0) [.ref t, .int x] g (fun v g1 => v = some (.int (if thr D x = true then B x.toNatClampNeg else -1)) ∧ g1 = g) := by
  refine gh_of [some (.ref t), some (.int x)] (by decide) rfl (Nat.le_of_ble_eq_true rfl) (by simp [Value.category]) (fun z C hQ => ?_)
  show gh_W l d z 0 [some (.ref t), some (.int x)] [] g 0 0
  refine gh_aload_n C dT_bornAt_0 rfl ?_
  refine gh_iload_n C dT_bornAt_1 rfl ?_
  refine gh_callV C [.int x] (c_isThere l d g hp x) lT_35 wT_isThere vT_isThere hp.1 rfl rfl rfl (Nat.le_of_ble_eq_true rfl) ⟨Nat.le_of_ble_eq_true rfl, Nat.le_of_ble_eq_true rfl⟩ (Nat.le_of_ble_eq_true rfl) (Nat.le_of_ble_eq_true rfl) dT_bornAt_2 (fun v2 g2 h2 => ?_)
  obtain ⟨rfl, rfl⟩ := h2
  refine gh_if_eq C 17 dT_bornAt_5 (by decide) (fun c5 => ?_) (fun c5 => ?_)
  ·
    have hx : ¬ thr D x = true := fun h => by rw [if_pos h] at c5; exact absurd c5 (by decide)
    refine gh_iconst C (-1) dT_bornAt_17 (by decide) ?_
    refine gh_iret C hQ rfl dT_bornAt_18 ?_
    exact ⟨by first | (rw [if_neg hx]; done) | (rw [if_pos hx, nI_clamp (by omega)]; done), rfl⟩
  ·
    have hx : thr D x = true := by
      by_cases h : thr D x = true
      · exact h
      · rw [if_neg h] at c5; exact absurd rfl c5
    obtain ⟨j, hj, rfl⟩ := thr_of hp.2.2.2.2 hx
    have h31 := tW_le hp.2.2.2.2
    refine gh_aload_n C dT_bornAt_8 rfl ?_
    refine gh_get C fT_15 hp.1 rfl dT_bornAt_9 ?_
    refine gh_iload_n C dT_bornAt_12 rfl ?_
    refine gh_ialdN C (j) hp.2.2.1 rfl rfl ⟨by omega, by decide⟩ dT_bornAt_13 ?_
    refine gh_goto C 18 dT_bornAt_14 (by decide) ?_
    refine gh_iret C hQ rfl dT_bornAt_18 ?_
    exact ⟨by first | (rw [if_neg hx]; done) | (rw [if_pos hx, nI_clamp (by omega)]; done), rfl⟩
set_option maxRecDepth 100000 in
set_option maxHeartbeats 4000000 in
theorem c_unmergedAt (l : Launch) (d : gh_D) (g : gh_H) {e D t ka ba ua : Nat} {K B U : Nat → Int32} (hp : pT g e D t ka ba ua K B U) (x : Int32) : gh_C l d mT_unmergedAt (rr 1 0 0) [.ref t, .int x] g (fun v g1 => v = some (.int (if thr D x = true then U x.toNatClampNeg else 0)) ∧ g1 = g) := by
  refine gh_of [some (.ref t), some (.int x)] (by decide) rfl (Nat.le_of_ble_eq_true rfl) (by simp [Value.category]) (fun z C hQ => ?_)
  show gh_W l d z 0 [some (.ref t), some (.int x)] [] g 0 0
  refine gh_aload_n C dT_unmergedAt_0 rfl ?_
  refine gh_iload_n C dT_unmergedAt_1 rfl ?_
  refine gh_callV C [.int x] (c_isThere l d g hp x) lT_35 wT_isThere vT_isThere hp.1 rfl rfl rfl (Nat.le_of_ble_eq_true rfl) ⟨Nat.le_of_ble_eq_true rfl, Nat.le_of_ble_eq_true rfl⟩ (Nat.le_of_ble_eq_true rfl) (Nat.le_of_ble_eq_true rfl) dT_unmergedAt_2 (fun v2 g2 h2 => ?_)
  obtain ⟨rfl, rfl⟩ := h2
  refine gh_if_eq C 17 dT_unmergedAt_5 (by decide) (fun c5 => ?_) (fun c5 => ?_)
  ·
    have hx : ¬ thr D x = true := fun h => by rw [if_pos h] at c5; exact absurd c5 (by decide)
    refine gh_iconst C 0 dT_unmergedAt_17 (by decide) ?_
    refine gh_iret C hQ rfl dT_unmergedAt_18 ?_
    exact ⟨by first | (rw [if_neg hx]; done) | (rw [if_pos hx, nI_clamp (by omega)]; done), rfl⟩
  ·
    have hx : thr D x = true := by
      by_cases h : thr D x = true
      · exact h
      · rw [if_neg h] at c5; exact absurd rfl c5
    obtain ⟨j, hj, rfl⟩ := thr_of hp.2.2.2.2 hx
    have h31 := tW_le hp.2.2.2.2
    refine gh_aload_n C dT_unmergedAt_8 rfl ?_
    refine gh_get C fT_18 hp.1 rfl dT_unmergedAt_9 ?_
    refine gh_iload_n C dT_unmergedAt_12 rfl ?_
    refine gh_ialdN C (j) hp.2.2.2.1 rfl rfl ⟨by omega, by decide⟩ dT_unmergedAt_13 ?_
    refine gh_goto C 18 dT_unmergedAt_14 (by decide) ?_
    refine gh_iret C hQ rfl dT_unmergedAt_18 ?_
    exact ⟨by first | (rw [if_neg hx]; done) | (rw [if_pos hx, nI_clamp (by omega)]; done), rfl⟩
def tput (D : Nat) (f : Nat → Int32) (x v : Int32) : Nat → Int32 := if thr D x = true then upd f x.toNatClampNeg v else f
set_option maxRecDepth 100000 in
set_option maxHeartbeats 4000000 in
theorem c_give (l : Launch) (d : gh_D) (g : gh_H) {e D t ka ba ua : Nat} {K B U : Nat → Int32} (hp : pT g e D t ka ba ua K B U) (x k b : Int32) : gh_C l d mT_give (rr 1 0 0) [.ref t, .int x, .int k, .int b] g (fun v g1 => v = none ∧ g1 = tset g e ka ba ua (tput D K x k) (tput D B x b) (tput D U x 0)) := by
  refine gh_of [some (.ref t), some (.int x), some (.int k), some (.int b)] (by decide) rfl (Nat.le_of_ble_eq_true rfl) (by simp [Value.category]) (fun z C hQ => ?_)
  show gh_W l d z 0 [some (.ref t), some (.int x), some (.int k), some (.int b)] [] g 0 0
  refine gh_aload_n C dT_give_0 rfl ?_
  refine gh_iload_n C dT_give_1 rfl ?_
  refine gh_callV C [.int x] (c_isThere l d g hp x) lT_35 wT_isThere vT_isThere hp.1 rfl rfl rfl (Nat.le_of_ble_eq_true rfl) ⟨Nat.le_of_ble_eq_true rfl, Nat.le_of_ble_eq_true rfl⟩ (Nat.le_of_ble_eq_true rfl) (Nat.le_of_ble_eq_true rfl) dT_give_2 (fun v2 g2 h2 => ?_)
  obtain ⟨rfl, rfl⟩ := h2
  refine gh_if_eq C 29 dT_give_5 (by decide) (fun c5 => ?_) (fun c5 => ?_)
  ·
    have hx : ¬ thr D x = true := fun h => by rw [if_pos h] at c5; exact absurd c5 (by decide)
    refine gh_vret C hQ rfl dT_give_29 ?_
    exact ⟨rfl, by first | (simp only [tput, if_neg hx]; exact (tset_self hp).symm) | (simp only [tput, if_pos hx]; rw [nI_clamp (show j < 2 ^ 31 by omega)]; rfl)⟩
  ·
    have hx : thr D x = true := by
      by_cases h : thr D x = true
      · exact h
      · rw [if_neg h] at c5; exact absurd rfl c5
    obtain ⟨j, hj, rfl⟩ := thr_of hp.2.2.2.2 hx
    have h31 := tW_le hp.2.2.2.2
    refine gh_aload_n C dT_give_8 rfl ?_
    refine gh_get C fT_9 hp.1 rfl dT_give_9 ?_
    refine gh_iload_n C dT_give_12 rfl ?_
    refine gh_iload_n C dT_give_13 rfl ?_
    refine gh_iastN C (j) hp.2.1 rfl rfl ⟨by omega, by decide⟩ dT_give_14 ?_
    refine gh_aload_n C dT_give_15 rfl ?_
    refine gh_get C fT_15 ((gh_un (gh_kd (by decide))).trans hp.1) rfl dT_give_16 ?_
    refine gh_iload_n C dT_give_19 rfl ?_
    refine gh_iload_n C dT_give_20 rfl ?_
    refine gh_iastN C (j) ((gh_un (gh_kd (by decide))).trans hp.2.2.1) rfl rfl ⟨by omega, by decide⟩ dT_give_21 ?_
    refine gh_aload_n C dT_give_22 rfl ?_
    refine gh_get C fT_18 ((gh_un (gh_kd (by decide))).trans ((gh_un (gh_kd (by decide))).trans hp.1)) rfl dT_give_23 ?_
    refine gh_iload_n C dT_give_26 rfl ?_
    refine gh_iconst C 0 dT_give_27 (by decide) ?_
    refine gh_iastN C (j) ((gh_un (gh_kd (by decide))).trans ((gh_un (gh_kd (by decide))).trans hp.2.2.2.1)) rfl rfl ⟨by omega, by decide⟩ dT_give_28 ?_
    refine gh_vret C hQ rfl dT_give_29 ?_
    exact ⟨rfl, by first | (simp only [tput, if_neg hx]; exact (tset_self hp).symm) | (simp only [tput, if_pos hx]; rw [nI_clamp (show j < 2 ^ 31 by omega)]; rfl)⟩
set_option maxRecDepth 100000 in
set_option maxHeartbeats 4000000 in
theorem c_blank (l : Launch) (d : gh_D) (g : gh_H) {e D t ka ba ua : Nat} {K B U : Nat → Int32} (hp : pT g e D t ka ba ua K B U) (x : Int32) : gh_C l d mT_blank (rr 2 0 0) [.ref t, .int x] g (fun v g1 => v = none ∧ g1 = tset g e ka ba ua (tput D K x (-1)) (tput D B x (-1)) (tput D U x 0)) := by
  refine gh_of [some (.ref t), some (.int x)] (by decide) rfl (Nat.le_of_ble_eq_true rfl) (by simp [Value.category]) (fun z C hQ => ?_)
  show gh_W l d z 0 [some (.ref t), some (.int x)] [] g 0 0
  refine gh_aload_n C dT_blank_0 rfl ?_
  refine gh_iload_n C dT_blank_1 rfl ?_
  refine gh_iconst C (-1) dT_blank_2 (by decide) ?_
  refine gh_iconst C (-1) dT_blank_3 (by decide) ?_
  refine gh_callV C [.int x, .int (-1), .int (-1)] (c_give l d g hp x (-1) (-1)) lT_39 wT_give vT_give hp.1 rfl rfl rfl (Nat.le_of_ble_eq_true rfl) ⟨Nat.le_of_ble_eq_true rfl, Nat.le_of_ble_eq_true rfl⟩ (Nat.le_of_ble_eq_true rfl) (Nat.le_of_ble_eq_true rfl) dT_blank_4 (fun v4 g4 h4 => ?_)
  obtain ⟨rfl, rfl⟩ := h4
  refine gh_vret C hQ rfl dT_blank_7 ?_
  exact ⟨rfl, rfl⟩
end
section
/-! the JDK's: Arrays.fill, Arrays.copyOf, Math.min, Math.max -/
def fl (i : Nat) (x : Int32) (f : Nat → Int32) : Nat → Int32 := fun j => if j < i then x else f j
theorem fl_0 (x : Int32) (f : Nat → Int32) : fl 0 x f = f := by funext j; simp [fl]
theorem fl_s (i : Nat) (x : Int32) (f : Nat → Int32) : upd (fl i x f) i x = fl (i + 1) x f := by
  funext j
  simp only [upd, fl]
  by_cases h : j = i
  · subst h; simp
  · by_cases h2 : j < i
    · simp [h, h2, show j < i + 1 by omega]
    · simp [h, h2, show ¬ j < i + 1 by omega]
set_option maxRecDepth 100000 in
set_option maxHeartbeats 4000000 in
theorem c_fill (l : Launch) (d : gh_D) (g : gh_H) {K : gh_K} {a n : Nat} {f : Nat → Int32} (x : Int32) (hg : g K = some (a, .inl (0, n, .inl f))) (hn : n < 2 ^ 31) : gh_C l d mA_fill (rr 0 0 0) [.ref a, .int x] g (fun v g1 => v = none ∧ g1 = gh_u g K (a, .inl (0, n, .inl (fl n x f)))) := by
  refine gh_of [some (.ref a), some (.int x), none, none] (by decide) rfl (Nat.le_of_ble_eq_true rfl) (by simp [Value.category]) (fun z C hQ => ?_)
  show gh_W l d z 0 [some (.ref a), some (.int x), none, none] [] g 0 0
  have loop : ∀ (k i : Nat), i + k = n → gh_W l d z 5 [some (.ref a), some (.int x), some (.int (nI i)), some (.int (nI n))] [] (gh_u g K (a, .inl (0, n, .inl (fl i x f)))) 0 0 := by
    intro k
    induction k with
    | zero =>
      intro i hi
      have hi : i = n := by omega
      subst hi
      refine gh_iload_n C dA_fill_5 rfl ?_
      refine gh_iload_n C dA_fill_6 rfl ?_
      refine gh_icmp_ge C 20 dA_fill_7 (by decide) (fun c7 => ?_) (fun c7 => ?_)
      ·
        refine gh_vret C hQ rfl dA_fill_20 ?_
        exact ⟨rfl, rfl⟩
      · exact absurd (nI_le (Nat.le_refl i) (by omega)) c7
    | succ k ih =>
      intro i hi
      have hlt : i < n := by omega
      refine gh_iload_n C dA_fill_5 rfl ?_
      refine gh_iload_n C dA_fill_6 rfl ?_
      refine gh_icmp_ge C 20 dA_fill_7 (by decide) (fun c7 => ?_) (fun c7 => ?_)
      · exact absurd c7 (nI_ge hlt (by omega))
      ·
        refine gh_aload_n C dA_fill_10 rfl ?_
        refine gh_iload_n C dA_fill_11 rfl ?_
        refine gh_iload_n C dA_fill_12 rfl ?_
        refine gh_iastN C (i) gh_us rfl rfl ⟨hlt, hn⟩ dA_fill_13 ?_
        refine gh_iinc C (nI (i + 1)) [some (.ref a), some (.int x), some (.int (nI (i + 1))), some (.int (nI n))] dA_fill_14 rfl (gh_inc i) rfl ?_
        refine gh_goto C 5 dA_fill_17 (by decide) ?_
        rw [gh_uu, fl_s]
        exact ih (i + 1) (by omega)
  refine gh_iconst C 0 dA_fill_0 (by decide) ?_
  refine gh_istore_n C [some (.ref a), some (.int x), some (.int 0), none] dA_fill_1 rfl (by simp) ?_
  refine gh_aload_n C dA_fill_2 rfl ?_
  refine gh_alen C hg rfl dA_fill_3 ?_
  refine gh_istore_n C [some (.ref a), some (.int x), some (.int 0), some (.int (nI n))] dA_fill_4 rfl (by simp) ?_
  have h := loop n 0 (by omega)
  rw [fl_0, gh_uself hg] at h
  exact h
def ext (n : Nat) (f : Nat → Int32) : Nat → Int32 := fun j => if j < n then f j else 0
theorem ext_cpy (n N : Nat) (f : Nat → Int32) : va_cpy f (fun _ => 0) 0 0 n = ext n f := by
  funext j
  simp [va_cpy, ext]
theorem xA_m : Cond.methodLink "java/util/Arrays" 304 Lib.Math.min.name ∈ gh_T := gh_in 237 (by decide +kernel) rfl
theorem xA_l : Cond.methodLink "java/util/Arrays" 150 arraycopyName ∈ gh_T := gh_in 240 (by decide +kernel) rfl
theorem xA_n : Cond.native arraycopyName ∈ gh_T := gh_in 242 (by decide +kernel) rfl
theorem xA_s : Cond.static arraycopyName ∈ gh_T := gh_in 241 (by decide +kernel) rfl
theorem xA_i : Cond.initialized "java/lang/System" ∈ gh_T := gh_in 68 (by decide +kernel) rfl
set_option maxRecDepth 100000 in
set_option maxHeartbeats 4000000 in
theorem c_copyOfB (l : Launch) (d : gh_D) (g : gh_H) {a n : Nat} {K : gh_K} {f : Nat → Int32} (N : Nat) (hg : g K = some (a, .inl (1, n, .inl f))) (hK : K ≠ (61, 0)) (hne : N ≠ n) (hN : n ≤ N ∧ N ≤ 1000000) (hfit : ∀ j, fits .byte (.int (f j)) = true) : gh_C l d mA_copyOf0 (rr 2 1 N) [.ref a, .int (nI N)] g (fun v g1 => ∃ q : Nat, v = some (.ref q) ∧ g1 = gh_u g (61, 0) (q, .inl (1, N, .inl (ext n f)))) := by
  refine gh_of [some (.ref a), some (.int (nI N)), none] (by decide) rfl (Nat.le_of_ble_eq_true rfl) (by simp [Value.category]) (fun z C hQ => ?_)
  show gh_W l d z 0 [some (.ref a), some (.int (nI N)), none] [] g 1 N
  refine gh_iload_n C dA_copyOf0_0 rfl ?_
  refine gh_aload_n C dA_copyOf0_1 rfl ?_
  refine gh_alen C hg rfl dA_copyOf0_2 ?_
  refine gh_icmp_ne C 14 dA_copyOf0_3 (by decide) (fun c3 => ?_) (fun c3 => ?_)
  ·
    refine gh_iload_n C dA_copyOf0_14 rfl ?_
    refine gh_newaB C (61, 0) (N) ⟨rfl, hN.2⟩ 0 0 (by omega) (by omega) dA_copyOf0_15 (fun q nq => ?_)
    refine gh_astore_n C [some (.ref a), some (.int (nI N)), some (.ref q)] dA_copyOf0_17 rfl (by simp) ?_
    refine gh_aload_n C dA_copyOf0_18 rfl ?_
    refine gh_iconst C 0 dA_copyOf0_19 (by decide) ?_
    refine gh_aload_n C dA_copyOf0_20 rfl ?_
    refine gh_iconst C 0 dA_copyOf0_21 (by decide) ?_
    refine gh_aload_n C dA_copyOf0_22 rfl ?_
    refine gh_alen C ((gh_un hK).trans hg) rfl dA_copyOf0_23 ?_
    refine gh_iload_n C dA_copyOf0_24 rfl ?_
    refine gh_min C n N hN.1 (by omega) xA_m ⟨Nat.le_of_ble_eq_true rfl, Nat.le_of_ble_eq_true rfl⟩ (Nat.le_of_ble_eq_true rfl) dA_copyOf0_25 ?_
    refine gh_copy C xA_l xA_n xA_s xA_i ((gh_un hK).trans hg) gh_us rfl rfl (by decide) (by decide) (nI_pos (by omega)) (by rw [nI_clamp (show n < 2 ^ 31 by omega)]; show 0 + n ≤ n; omega) (by rw [nI_clamp (show n < 2 ^ 31 by omega)]; show 0 + n ≤ N; omega) (fun i _ => hfit _) ⟨Nat.le_of_ble_eq_true rfl, Nat.le_of_ble_eq_true rfl⟩ (Nat.le_of_ble_eq_true rfl) dA_copyOf0_28 ?_
    rw [nI_clamp (show n < 2 ^ 31 by omega), show (0 : Int32).toNatClampNeg = 0 from rfl, gh_uu, ext_cpy n N]
    refine gh_aload_n C dA_copyOf0_31 rfl ?_
    refine gh_aret C hQ rfl (Or.inr ⟨_, rfl⟩) (Or.inr ⟨_, rfl⟩) dA_copyOf0_32 ?_
    exact ⟨q, rfl, rfl⟩
  · exact absurd c3 (fun h => hne ((nI_eq (by omega) (by omega)).mp h))
set_option maxRecDepth 100000 in
set_option maxHeartbeats 4000000 in
theorem c_copyOfI (l : Launch) (d : gh_D) (g : gh_H) {a n : Nat} {K : gh_K} {f : Nat → Int32} (N : Nat) (hg : g K = some (a, .inl (0, n, .inl f))) (hK : K ≠ (61, 0)) (hne : N ≠ n) (hN : n ≤ N ∧ N ≤ 1000000) (hfit : ∀ j, fits .int (.int (f j)) = true) : gh_C l d mA_copyOf1 (rr 2 1 N) [.ref a, .int (nI N)] g (fun v g1 => ∃ q : Nat, v = some (.ref q) ∧ g1 = gh_u g (61, 0) (q, .inl (0, N, .inl (ext n f)))) := by
  refine gh_of [some (.ref a), some (.int (nI N)), none] (by decide) rfl (Nat.le_of_ble_eq_true rfl) (by simp [Value.category]) (fun z C hQ => ?_)
  show gh_W l d z 0 [some (.ref a), some (.int (nI N)), none] [] g 1 N
  refine gh_iload_n C dA_copyOf1_0 rfl ?_
  refine gh_aload_n C dA_copyOf1_1 rfl ?_
  refine gh_alen C hg rfl dA_copyOf1_2 ?_
  refine gh_icmp_ne C 14 dA_copyOf1_3 (by decide) (fun c3 => ?_) (fun c3 => ?_)
  ·
    refine gh_iload_n C dA_copyOf1_14 rfl ?_
    refine gh_newaI C (61, 0) (N) ⟨rfl, hN.2⟩ 0 0 (by omega) (by omega) dA_copyOf1_15 (fun q nq => ?_)
    refine gh_astore_n C [some (.ref a), some (.int (nI N)), some (.ref q)] dA_copyOf1_17 rfl (by simp) ?_
    refine gh_aload_n C dA_copyOf1_18 rfl ?_
    refine gh_iconst C 0 dA_copyOf1_19 (by decide) ?_
    refine gh_aload_n C dA_copyOf1_20 rfl ?_
    refine gh_iconst C 0 dA_copyOf1_21 (by decide) ?_
    refine gh_aload_n C dA_copyOf1_22 rfl ?_
    refine gh_alen C ((gh_un hK).trans hg) rfl dA_copyOf1_23 ?_
    refine gh_iload_n C dA_copyOf1_24 rfl ?_
    refine gh_min C n N hN.1 (by omega) xA_m ⟨Nat.le_of_ble_eq_true rfl, Nat.le_of_ble_eq_true rfl⟩ (Nat.le_of_ble_eq_true rfl) dA_copyOf1_25 ?_
    refine gh_copy C xA_l xA_n xA_s xA_i ((gh_un hK).trans hg) gh_us rfl rfl (by decide) (by decide) (nI_pos (by omega)) (by rw [nI_clamp (show n < 2 ^ 31 by omega)]; show 0 + n ≤ n; omega) (by rw [nI_clamp (show n < 2 ^ 31 by omega)]; show 0 + n ≤ N; omega) (fun i _ => hfit _) ⟨Nat.le_of_ble_eq_true rfl, Nat.le_of_ble_eq_true rfl⟩ (Nat.le_of_ble_eq_true rfl) dA_copyOf1_28 ?_
    rw [nI_clamp (show n < 2 ^ 31 by omega), show (0 : Int32).toNatClampNeg = 0 from rfl, gh_uu, ext_cpy n N]
    refine gh_aload_n C dA_copyOf1_31 rfl ?_
    refine gh_aret C hQ rfl (Or.inr ⟨_, rfl⟩) (Or.inr ⟨_, rfl⟩) dA_copyOf1_32 ?_
    exact ⟨q, rfl, rfl⟩
  · exact absurd c3 (fun h => hne ((nI_eq (by omega) (by omega)).mp h))
end
section
/-! SECRETS: n are made, o says which are out; r rules f1, f2, f3 -/
def cap (n : Nat) : Nat := if n ≤ 64 then 64 else if n ≤ 128 then 128 else if n ≤ 256 then 256 else if n ≤ 512 then 512 else if n ≤ 1024 then 1024 else if n ≤ 2048 then 2048 else 4096
theorem cap_ge {n : Nat} (h : n ≤ 4096) : n ≤ cap n := by unfold cap; (repeat' split) <;> omega
theorem cap_le (n : Nat) : cap n ≤ 4096 := by unfold cap; (repeat' split) <;> omega
theorem cap_64 (n : Nat) : 64 ≤ cap n := by unfold cap; (repeat' split) <;> omega
theorem cap_mono {n m : Nat} (h : n ≤ m) : cap n ≤ cap m := by unfold cap; (repeat' split) <;> omega
theorem cap_keep {n : Nat} (h : n < cap n) : cap (n + 1) = cap n := by unfold cap at h ⊢; (repeat' split at h) <;> ((repeat' split) <;> omega)
theorem cap_grow {n : Nat} (h : ¬ n < cap n) (h2 : n < 4096) : cap n = n ∧ cap (n + 1) = 2 * n := by
  unfold cap at h ⊢
  (repeat' split at h) <;> (first | omega | (refine And.intro ?_ ?_ <;> ((repeat' split) <;> omega)))
def pS (g : gh_H) (a n r : Nat) (o f1 f2 f3 : Nat → Int32) : Prop := ∃ ao a1 a2 a3 : Nat, g (2, 0) = some (a, .inr (1, [.ref ao, .int (nI n), .ref a1, .ref a2, .ref a3, .int (nI r)])) ∧ g (3, 0) = some (ao, .inl (1, cap n, .inl o)) ∧ g (4, 0) = some (a1, .inl (0, cap r, .inl f1)) ∧ g (5, 0) = some (a2, .inl (0, cap r, .inl f2)) ∧ g (6, 0) = some (a3, .inl (0, cap r, .inl f3))
def okS (n r : Nat) (o f1 f2 f3 : Nat → Int32) : Prop := n ≤ 4096 ∧ r ≤ 4096 ∧ (∀ j, o j = 0 ∨ o j = 1) ∧ (∀ j, n ≤ j → o j = 0) ∧ ∀ j, r ≤ j → f1 j = 0 ∧ f2 j = 0 ∧ f3 j = 0
theorem pS.fr {P : Nat → Bool} {g g1 : gh_H} {a n r : Nat} {o f1 f2 f3 : Nat → Int32} (h : pS g a n r o f1 f2 f3) (hf : fr P g g1) (hP : P 2 = false ∧ P 3 = false ∧ P 4 = false ∧ P 5 = false ∧ P 6 = false) : pS g1 a n r o f1 f2 f3 := by
  obtain ⟨ao, a1, a2, a3, h1, h2, h3, h4, h5⟩ := h
  exact ⟨ao, a1, a2, a3, hf.at hP.1 h1, hf.at hP.2.1 h2, hf.at hP.2.2.1 h3, hf.at hP.2.2.2.1 h4, hf.at hP.2.2.2.2 h5⟩
theorem ext_o {n : Nat} {o : Nat → Int32} (h : ∀ j, n ≤ j → o j = 0) : ext n o = o := by
  funext j
  unfold ext
  split
  · rfl
  · exact (h j (by omega)).symm
theorem fit01 {o : Nat → Int32} (h : ∀ j, o j = 0 ∨ o j = 1) (j : Nat) : fits .byte (.int (o j)) = true := by rcases h j with e | e <;> rw [e] <;> rfl
def kS (k : Nat) : Bool := k == 2 || k == 3 || k == 4 || k == 5 || k == 6 || decide (60 ≤ k)
set_option maxRecDepth 100000 in
set_option maxHeartbeats 4000000 in
theorem c_fresh (l : Launch) (d : gh_D) (g : gh_H) {a n r : Nat} {o f1 f2 f3 : Nat → Int32} (hp : pS g a n r o f1 f2 f3) (ok : okS n r o f1 f2 f3) (hn : n < 4096) : gh_C l d mS_fresh (rr 3 1 (2 * cap (n + 1) - 2 * cap n)) [.ref a] g (fun v g1 => v = some (.int (nI n)) ∧ pS g1 a (n + 1) r o f1 f2 f3 ∧ fr kS g g1) := by
  obtain ⟨ao, a1, a2, a3, h1, h2, h3, h4, h5⟩ := hp
  have h64 := cap_64 n
  have h65 := cap_64 r
  have hle := cap_le n
  have hge := cap_ge ok.1
  have hn4 := ok.1
  have hr4 := ok.2.1
  refine gh_of [some (.ref a)] (by decide) rfl (Nat.le_of_ble_eq_true rfl) (by simp [Value.category]) (fun z C hQ => ?_)
  show gh_W l d z 0 [some (.ref a)] [] g 1 (2 * cap (n + 1) - 2 * cap n)
  refine gh_aload_n C dS_fresh_0 rfl ?_
  refine gh_get C fS_25 h1 rfl dS_fresh_1 ?_
  refine gh_aload_n C dS_fresh_4 rfl ?_
  refine gh_get C fS_11 h1 rfl dS_fresh_5 ?_
  refine gh_alen C h2 rfl dS_fresh_8 ?_
  refine gh_icmp_lt C 40 dS_fresh_9 (by decide) (fun c9 => ?_) (fun c9 => ?_)
  ·
    have hlt : n < cap n := (nI_ltI (by omega) (by omega)).mp c9
    skip
    refine gh_aload_n C dS_fresh_40 rfl ?_
    refine gh_get C fS_25 h1 rfl dS_fresh_41 ?_
    refine gh_aload_n C dS_fresh_44 rfl ?_
    refine gh_get C fS_11 h1 rfl dS_fresh_45 ?_
    refine gh_alen C h2 rfl dS_fresh_48 ?_
    refine gh_icmp_lt C 54 dS_fresh_49 (by decide) (fun c49 => ?_) (fun c49 => ?_)
    ·
      skip
      refine gh_aload_n C dS_fresh_54 rfl ?_
      refine gh_dup C dS_fresh_55 rfl ?_
      refine gh_get C fS_25 h1 rfl dS_fresh_56 ?_
      refine gh_iconst C 1 dS_fresh_59 (by decide) ?_
      refine gh_iadd C dS_fresh_60 ?_
      refine gh_ti (nI (n + 1)) (nI_1 n) ?_
      refine gh_putL C [.ref ao, .int (nI (n + 1)), .ref a1, .ref a2, .ref a3, .int (nI r)] pS_25 (by decide) h1 rfl (by simp) rfl rfl dS_fresh_61 ?_
      refine gh_aload_n C dS_fresh_64 rfl ?_
      refine gh_get C fS_25 gh_us rfl dS_fresh_65 ?_
      refine gh_iconst C 1 dS_fresh_68 (by decide) ?_
      refine gh_isub C dS_fresh_69 ?_
      refine gh_ti (nI n) (nI_pred n) ?_
      refine gh_iret C hQ rfl dS_fresh_70 ?_
      exact ⟨rfl, by rw [pS]; rw [cap_keep hlt]; exact ⟨ao, a1, a2, a3, gh_us, ((gh_un (gh_kd (by decide))).trans h2), ((gh_un (gh_kd (by decide))).trans h3), ((gh_un (gh_kd (by decide))).trans h4), ((gh_un (gh_kd (by decide))).trans h5)⟩, (fr.rf.u rfl)⟩
    · first | exact absurd (nI_lt hlt (by omega)) c49 | exact absurd (nI_lt (show n < cap (n + 1) by omega) (by omega)) c49
  ·
    have hnl : ¬ n < cap n := fun h => c9 (nI_lt h (by omega))
    obtain ⟨hc1, hc2⟩ := cap_grow hnl hn
    refine gh_aload_n C dS_fresh_12 rfl ?_
    refine gh_get C fS_25 h1 rfl dS_fresh_13 ?_
    refine gh_sipush C 4096 dS_fresh_16 (by decide) ?_
    refine gh_icmp_ge C 40 dS_fresh_19 (by decide) (fun c19 => ?_) (fun c19 => ?_)
    · exact absurd c19 (show ¬ nI 4096 ≤ nI n from nI_ge hn (by omega))
    ·
      refine gh_aload_n C dS_fresh_22 rfl ?_
      refine gh_aload_n C dS_fresh_23 rfl ?_
      refine gh_get C fS_11 h1 rfl dS_fresh_24 ?_
      refine gh_iconst C 2 dS_fresh_27 (by decide) ?_
      refine gh_aload_n C dS_fresh_28 rfl ?_
      refine gh_get C fS_11 h1 rfl dS_fresh_29 ?_
      refine gh_alen C h2 rfl dS_fresh_32 ?_
      refine gh_imul C dS_fresh_33 ?_
      refine gh_ti (nI (2 * cap n)) (by rw [show (2 : Int32) = nI 2 from rfl, pk_mul]) ?_
      refine gh_callS C [.ref ao, .int (nI (2 * cap n))] (c_copyOfB l d _ (2 * cap n) h2 (gh_kd (by decide)) (by have := cap_64 n; omega) (by omega) (fit01 ok.2.2.1)) lS_29 wA_copyOf0 sA_copyOf0 rfl rfl (Nat.le_of_ble_eq_true rfl) ⟨Nat.le_of_ble_eq_true rfl, Nat.le_of_ble_eq_true rfl⟩ (Nat.le_of_ble_eq_true rfl) (by show 2 * cap n ≤ _; omega) dS_fresh_34 (fun v34 g34 h34 => ?_)
      simp only [ext_o (show ∀ j, cap n ≤ j → o j = 0 from fun j hj => ok.2.2.2.1 j (by omega)), show 2 * cap n = cap (n + 1) by omega] at h34
      obtain ⟨q, rfl, rfl⟩ := h34
      refine gh_putL C [.ref q, .int (nI n), .ref a1, .ref a2, .ref a3, .int (nI r)] pS_11 (by decide) ((gh_un (gh_kd (by decide))).trans h1) rfl (by simp) rfl rfl dS_fresh_37 ?_
      refine gh_move C (61, 0) (3, 0) ?_
      refine gh_aload_n C dS_fresh_40 rfl ?_
      refine gh_get C fS_25 ((gh_mv_o (gh_kd (by decide)) (gh_kd (by decide))).trans gh_us) rfl dS_fresh_41 ?_
      refine gh_aload_n C dS_fresh_44 rfl ?_
      refine gh_get C fS_11 ((gh_mv_o (gh_kd (by decide)) (gh_kd (by decide))).trans gh_us) rfl dS_fresh_45 ?_
      refine gh_alen C (gh_mv_k.trans ((gh_un (gh_kd (by decide))).trans gh_us)) rfl dS_fresh_48 ?_
      refine gh_icmp_lt C 54 dS_fresh_49 (by decide) (fun c49 => ?_) (fun c49 => ?_)
      ·
        skip
        refine gh_aload_n C dS_fresh_54 rfl ?_
        refine gh_dup C dS_fresh_55 rfl ?_
        refine gh_get C fS_25 ((gh_mv_o (gh_kd (by decide)) (gh_kd (by decide))).trans gh_us) rfl dS_fresh_56 ?_
        refine gh_iconst C 1 dS_fresh_59 (by decide) ?_
        refine gh_iadd C dS_fresh_60 ?_
        refine gh_ti (nI (n + 1)) (nI_1 n) ?_
        refine gh_putL C [.ref q, .int (nI (n + 1)), .ref a1, .ref a2, .ref a3, .int (nI r)] pS_25 (by decide) ((gh_mv_o (gh_kd (by decide)) (gh_kd (by decide))).trans gh_us) rfl (by simp) rfl rfl dS_fresh_61 ?_
        refine gh_aload_n C dS_fresh_64 rfl ?_
        refine gh_get C fS_25 gh_us rfl dS_fresh_65 ?_
        refine gh_iconst C 1 dS_fresh_68 (by decide) ?_
        refine gh_isub C dS_fresh_69 ?_
        refine gh_ti (nI n) (nI_pred n) ?_
        refine gh_iret C hQ rfl dS_fresh_70 ?_
        exact ⟨rfl, ⟨q, a1, a2, a3, gh_us, ((gh_un (gh_kd (by decide))).trans (gh_mv_k.trans ((gh_un (gh_kd (by decide))).trans gh_us))), ((gh_un (gh_kd (by decide))).trans ((gh_mv_o (gh_kd (by decide)) (gh_kd (by decide))).trans ((gh_un (gh_kd (by decide))).trans ((gh_un (gh_kd (by decide))).trans h3)))), ((gh_un (gh_kd (by decide))).trans ((gh_mv_o (gh_kd (by decide)) (gh_kd (by decide))).trans ((gh_un (gh_kd (by decide))).trans ((gh_un (gh_kd (by decide))).trans h4)))), ((gh_un (gh_kd (by decide))).trans ((gh_mv_o (gh_kd (by decide)) (gh_kd (by decide))).trans ((gh_un (gh_kd (by decide))).trans ((gh_un (gh_kd (by decide))).trans h5))))⟩, ((((fr.rf.u rfl).u rfl).mv rfl rfl).u rfl)⟩
      · first | exact absurd (nI_lt hlt (by omega)) c49 | exact absurd (nI_lt (show n < cap (n + 1) by omega) (by omega)) c49
set_option maxRecDepth 100000 in
set_option maxHeartbeats 4000000 in
theorem c_tie (l : Launch) (d : gh_D) (g : gh_H) {a n r : Nat} {o f1 f2 f3 : Nat → Int32} (hp : pS g a n r o f1 f2 f3) (ok : okS n r o f1 f2 f3) (hr : r < 4096) (x y w : Int32) : gh_C l d mS_tie (rr 3 3 (6 * cap (r + 1) - 6 * cap r)) [.ref a, .int x, .int y, .int w] g (fun v g1 => v = none ∧ pS g1 a n (r + 1) o (upd f1 r x) (upd f2 r y) (upd f3 r w) ∧ fr kS g g1) := by
  obtain ⟨ao, a1, a2, a3, h1, h2, h3, h4, h5⟩ := hp
  have h64 := cap_64 n
  have h65 := cap_64 r
  have hle := cap_le n
  have hge := cap_ge ok.1
  have hn4 := ok.1
  have hr4 := ok.2.1
  have hle2 := cap_le r
  have hge2 := cap_ge ok.2.1
  refine gh_of [some (.ref a), some (.int x), some (.int y), some (.int w)] (by decide) rfl (Nat.le_of_ble_eq_true rfl) (by simp [Value.category]) (fun z C hQ => ?_)
  show gh_W l d z 0 [some (.ref a), some (.int x), some (.int y), some (.int w)] [] g 3 (6 * cap (r + 1) - 6 * cap r)
  refine gh_aload_n C dS_tie_0 rfl ?_
  refine gh_get C fS_47 h1 rfl dS_tie_1 ?_
  refine gh_aload_n C dS_tie_4 rfl ?_
  refine gh_get C fS_22 h1 rfl dS_tie_5 ?_
  refine gh_alen C h5 rfl dS_tie_8 ?_
  refine gh_icmp_lt C 76 dS_tie_9 (by decide) (fun c9 => ?_) (fun c9 => ?_)
  ·
    have hlt : r < cap r := (nI_ltI (by omega) (by omega)).mp c9
    skip
    refine gh_aload_n C dS_tie_76 rfl ?_
    refine gh_get C fS_47 h1 rfl dS_tie_77 ?_
    refine gh_aload_n C dS_tie_80 rfl ?_
    refine gh_get C fS_22 h1 rfl dS_tie_81 ?_
    refine gh_alen C h5 rfl dS_tie_84 ?_
    refine gh_icmp_lt C 89 dS_tie_85 (by decide) (fun c85 => ?_) (fun c85 => ?_)
    ·
      skip
      refine gh_aload_n C dS_tie_89 rfl ?_
      refine gh_get C fS_15 h1 rfl dS_tie_90 ?_
      refine gh_aload_n C dS_tie_93 rfl ?_
      refine gh_get C fS_47 h1 rfl dS_tie_94 ?_
      refine gh_iload_n C dS_tie_97 rfl ?_
      refine gh_iastN C (r) h3 rfl rfl ⟨by first | exact hlt | omega, by omega⟩ dS_tie_98 ?_
      refine gh_aload_n C dS_tie_99 rfl ?_
      refine gh_get C fS_19 ((gh_un (gh_kd (by decide))).trans h1) rfl dS_tie_100 ?_
      refine gh_aload_n C dS_tie_103 rfl ?_
      refine gh_get C fS_47 ((gh_un (gh_kd (by decide))).trans h1) rfl dS_tie_104 ?_
      refine gh_iload_n C dS_tie_107 rfl ?_
      refine gh_iastN C (r) ((gh_un (gh_kd (by decide))).trans h4) rfl rfl ⟨by first | exact hlt | omega, by omega⟩ dS_tie_108 ?_
      refine gh_aload_n C dS_tie_109 rfl ?_
      refine gh_get C fS_22 ((gh_un (gh_kd (by decide))).trans ((gh_un (gh_kd (by decide))).trans h1)) rfl dS_tie_110 ?_
      refine gh_aload_n C dS_tie_113 rfl ?_
      refine gh_get C fS_47 ((gh_un (gh_kd (by decide))).trans ((gh_un (gh_kd (by decide))).trans h1)) rfl dS_tie_114 ?_
      refine gh_iload_n C dS_tie_117 rfl ?_
      refine gh_iastN C (r) ((gh_un (gh_kd (by decide))).trans ((gh_un (gh_kd (by decide))).trans h5)) rfl rfl ⟨by first | exact hlt | omega, by omega⟩ dS_tie_118 ?_
      refine gh_aload_n C dS_tie_119 rfl ?_
      refine gh_dup C dS_tie_120 rfl ?_
      refine gh_get C fS_47 ((gh_un (gh_kd (by decide))).trans ((gh_un (gh_kd (by decide))).trans ((gh_un (gh_kd (by decide))).trans h1))) rfl dS_tie_121 ?_
      refine gh_iconst C 1 dS_tie_124 (by decide) ?_
      refine gh_iadd C dS_tie_125 ?_
      refine gh_ti (nI (r + 1)) (nI_1 r) ?_
      refine gh_putL C [.ref ao, .int (nI n), .ref a1, .ref a2, .ref a3, .int (nI (r + 1))] pS_47 (by decide) ((gh_un (gh_kd (by decide))).trans ((gh_un (gh_kd (by decide))).trans ((gh_un (gh_kd (by decide))).trans h1))) rfl (by simp) rfl rfl dS_tie_126 ?_
      refine gh_vret C hQ rfl dS_tie_129 ?_
      exact ⟨rfl, by rw [pS]; rw [cap_keep hlt]; exact ⟨ao, a1, a2, a3, gh_us, ((gh_un (gh_kd (by decide))).trans ((gh_un (gh_kd (by decide))).trans ((gh_un (gh_kd (by decide))).trans ((gh_un (gh_kd (by decide))).trans h2)))), ((gh_un (gh_kd (by decide))).trans ((gh_un (gh_kd (by decide))).trans ((gh_un (gh_kd (by decide))).trans gh_us))), ((gh_un (gh_kd (by decide))).trans ((gh_un (gh_kd (by decide))).trans gh_us)), ((gh_un (gh_kd (by decide))).trans gh_us)⟩, ((((fr.rf.u rfl).u rfl).u rfl).u rfl)⟩
    · first | exact absurd (nI_lt hlt (by omega)) c85 | exact absurd (nI_lt (show r < cap (r + 1) by omega) (by omega)) c85
  ·
    have hnl : ¬ r < cap r := fun h => c9 (nI_lt h (by omega))
    obtain ⟨hc1, hc2⟩ := cap_grow hnl hr
    refine gh_aload_n C dS_tie_12 rfl ?_
    refine gh_get C fS_47 h1 rfl dS_tie_13 ?_
    refine gh_sipush C 4096 dS_tie_16 (by decide) ?_
    refine gh_icmp_ge C 76 dS_tie_19 (by decide) (fun c19 => ?_) (fun c19 => ?_)
    · exact absurd c19 (show ¬ nI 4096 ≤ nI r from nI_ge hr (by omega))
    ·
      refine gh_aload_n C dS_tie_22 rfl ?_
      refine gh_aload_n C dS_tie_23 rfl ?_
      refine gh_get C fS_15 h1 rfl dS_tie_24 ?_
      refine gh_iconst C 2 dS_tie_27 (by decide) ?_
      refine gh_aload_n C dS_tie_28 rfl ?_
      refine gh_get C fS_15 h1 rfl dS_tie_29 ?_
      refine gh_alen C h3 rfl dS_tie_32 ?_
      refine gh_imul C dS_tie_33 ?_
      refine gh_ti (nI (2 * cap r)) (by rw [show (2 : Int32) = nI 2 from rfl, pk_mul]) ?_
      refine gh_callS C [.ref a1, .int (nI (2 * cap r))] (c_copyOfI l d _ (2 * cap r) h3 (gh_kd (by decide)) (by omega) (by omega) (fun _ => rfl)) lS_50 wA_copyOf1 sA_copyOf1 rfl rfl (Nat.le_of_ble_eq_true rfl) ⟨Nat.le_of_ble_eq_true rfl, Nat.le_of_ble_eq_true rfl⟩ (Nat.le_of_ble_eq_true rfl) (by dsimp only [rr]; omega) dS_tie_34 (fun v34 g34 h34 => ?_)
      simp only [ext_o (show ∀ j, cap r ≤ j → f1 j = 0 from fun j hj => (ok.2.2.2.2 j (by omega)).1), show 2 * cap r = cap (r + 1) by omega] at h34
      obtain ⟨q34, rfl, rfl⟩ := h34
      refine gh_putL C [.ref ao, .int (nI n), .ref q34, .ref a2, .ref a3, .int (nI r)] pS_15 (by decide) ((gh_un (gh_kd (by decide))).trans h1) rfl (by simp) rfl rfl dS_tie_37 ?_
      refine gh_move C (61, 0) (4, 0) ?_
      refine gh_aload_n C dS_tie_40 rfl ?_
      refine gh_aload_n C dS_tie_41 rfl ?_
      refine gh_get C fS_19 ((gh_mv_o (gh_kd (by decide)) (gh_kd (by decide))).trans gh_us) rfl dS_tie_42 ?_
      refine gh_iconst C 2 dS_tie_45 (by decide) ?_
      refine gh_aload_n C dS_tie_46 rfl ?_
      refine gh_get C fS_19 ((gh_mv_o (gh_kd (by decide)) (gh_kd (by decide))).trans gh_us) rfl dS_tie_47 ?_
      refine gh_alen C ((gh_mv_o (gh_kd (by decide)) (gh_kd (by decide))).trans ((gh_un (gh_kd (by decide))).trans ((gh_un (gh_kd (by decide))).trans h4))) rfl dS_tie_50 ?_
      refine gh_imul C dS_tie_51 ?_
      refine gh_ti (nI (2 * cap r)) (by rw [show (2 : Int32) = nI 2 from rfl, pk_mul]) ?_
      refine gh_callS C [.ref a2, .int (nI (2 * cap r))] (c_copyOfI l d _ (2 * cap r) ((gh_mv_o (gh_kd (by decide)) (gh_kd (by decide))).trans ((gh_un (gh_kd (by decide))).trans ((gh_un (gh_kd (by decide))).trans h4))) (gh_kd (by decide)) (by omega) (by omega) (fun _ => rfl)) lS_50 wA_copyOf1 sA_copyOf1 rfl rfl (Nat.le_of_ble_eq_true rfl) ⟨Nat.le_of_ble_eq_true rfl, Nat.le_of_ble_eq_true rfl⟩ (Nat.le_of_ble_eq_true rfl) (by dsimp only [rr]; omega) dS_tie_52 (fun v52 g52 h52 => ?_)
      simp only [ext_o (show ∀ j, cap r ≤ j → f2 j = 0 from fun j hj => (ok.2.2.2.2 j (by omega)).2.1), show 2 * cap r = cap (r + 1) by omega] at h52
      obtain ⟨q52, rfl, rfl⟩ := h52
      refine gh_putL C [.ref ao, .int (nI n), .ref q34, .ref q52, .ref a3, .int (nI r)] pS_19 (by decide) ((gh_un (gh_kd (by decide))).trans ((gh_mv_o (gh_kd (by decide)) (gh_kd (by decide))).trans gh_us)) rfl (by simp) rfl rfl dS_tie_55 ?_
      refine gh_move C (61, 0) (5, 0) ?_
      refine gh_aload_n C dS_tie_58 rfl ?_
      refine gh_aload_n C dS_tie_59 rfl ?_
      refine gh_get C fS_22 ((gh_mv_o (gh_kd (by decide)) (gh_kd (by decide))).trans gh_us) rfl dS_tie_60 ?_
      refine gh_iconst C 2 dS_tie_63 (by decide) ?_
      refine gh_aload_n C dS_tie_64 rfl ?_
      refine gh_get C fS_22 ((gh_mv_o (gh_kd (by decide)) (gh_kd (by decide))).trans gh_us) rfl dS_tie_65 ?_
      refine gh_alen C ((gh_mv_o (gh_kd (by decide)) (gh_kd (by decide))).trans ((gh_un (gh_kd (by decide))).trans ((gh_un (gh_kd (by decide))).trans ((gh_mv_o (gh_kd (by decide)) (gh_kd (by decide))).trans ((gh_un (gh_kd (by decide))).trans ((gh_un (gh_kd (by decide))).trans h5)))))) rfl dS_tie_68 ?_
      refine gh_imul C dS_tie_69 ?_
      refine gh_ti (nI (2 * cap r)) (by rw [show (2 : Int32) = nI 2 from rfl, pk_mul]) ?_
      refine gh_callS C [.ref a3, .int (nI (2 * cap r))] (c_copyOfI l d _ (2 * cap r) ((gh_mv_o (gh_kd (by decide)) (gh_kd (by decide))).trans ((gh_un (gh_kd (by decide))).trans ((gh_un (gh_kd (by decide))).trans ((gh_mv_o (gh_kd (by decide)) (gh_kd (by decide))).trans ((gh_un (gh_kd (by decide))).trans ((gh_un (gh_kd (by decide))).trans h5)))))) (gh_kd (by decide)) (by omega) (by omega) (fun _ => rfl)) lS_50 wA_copyOf1 sA_copyOf1 rfl rfl (Nat.le_of_ble_eq_true rfl) ⟨Nat.le_of_ble_eq_true rfl, Nat.le_of_ble_eq_true rfl⟩ (Nat.le_of_ble_eq_true rfl) (by dsimp only [rr]; omega) dS_tie_70 (fun v70 g70 h70 => ?_)
      simp only [ext_o (show ∀ j, cap r ≤ j → f3 j = 0 from fun j hj => (ok.2.2.2.2 j (by omega)).2.2), show 2 * cap r = cap (r + 1) by omega] at h70
      obtain ⟨q70, rfl, rfl⟩ := h70
      refine gh_putL C [.ref ao, .int (nI n), .ref q34, .ref q52, .ref q70, .int (nI r)] pS_22 (by decide) ((gh_un (gh_kd (by decide))).trans ((gh_mv_o (gh_kd (by decide)) (gh_kd (by decide))).trans gh_us)) rfl (by simp) rfl rfl dS_tie_73 ?_
      refine gh_move C (61, 0) (6, 0) ?_
      refine gh_aload_n C dS_tie_76 rfl ?_
      refine gh_get C fS_47 ((gh_mv_o (gh_kd (by decide)) (gh_kd (by decide))).trans gh_us) rfl dS_tie_77 ?_
      refine gh_aload_n C dS_tie_80 rfl ?_
      refine gh_get C fS_22 ((gh_mv_o (gh_kd (by decide)) (gh_kd (by decide))).trans gh_us) rfl dS_tie_81 ?_
      refine gh_alen C (gh_mv_k.trans ((gh_un (gh_kd (by decide))).trans gh_us)) rfl dS_tie_84 ?_
      refine gh_icmp_lt C 89 dS_tie_85 (by decide) (fun c85 => ?_) (fun c85 => ?_)
      ·
        skip
        refine gh_aload_n C dS_tie_89 rfl ?_
        refine gh_get C fS_15 ((gh_mv_o (gh_kd (by decide)) (gh_kd (by decide))).trans gh_us) rfl dS_tie_90 ?_
        refine gh_aload_n C dS_tie_93 rfl ?_
        refine gh_get C fS_47 ((gh_mv_o (gh_kd (by decide)) (gh_kd (by decide))).trans gh_us) rfl dS_tie_94 ?_
        refine gh_iload_n C dS_tie_97 rfl ?_
        refine gh_iastN C (r) ((gh_mv_o (gh_kd (by decide)) (gh_kd (by decide))).trans ((gh_un (gh_kd (by decide))).trans ((gh_un (gh_kd (by decide))).trans ((gh_mv_o (gh_kd (by decide)) (gh_kd (by decide))).trans ((gh_un (gh_kd (by decide))).trans ((gh_un (gh_kd (by decide))).trans (gh_mv_k.trans ((gh_un (gh_kd (by decide))).trans gh_us)))))))) rfl rfl ⟨by first | exact hlt | omega, by omega⟩ dS_tie_98 ?_
        refine gh_aload_n C dS_tie_99 rfl ?_
        refine gh_get C fS_19 ((gh_un (gh_kd (by decide))).trans ((gh_mv_o (gh_kd (by decide)) (gh_kd (by decide))).trans gh_us)) rfl dS_tie_100 ?_
        refine gh_aload_n C dS_tie_103 rfl ?_
        refine gh_get C fS_47 ((gh_un (gh_kd (by decide))).trans ((gh_mv_o (gh_kd (by decide)) (gh_kd (by decide))).trans gh_us)) rfl dS_tie_104 ?_
        refine gh_iload_n C dS_tie_107 rfl ?_
        refine gh_iastN C (r) ((gh_un (gh_kd (by decide))).trans ((gh_mv_o (gh_kd (by decide)) (gh_kd (by decide))).trans ((gh_un (gh_kd (by decide))).trans ((gh_un (gh_kd (by decide))).trans (gh_mv_k.trans ((gh_un (gh_kd (by decide))).trans gh_us)))))) rfl rfl ⟨by first | exact hlt | omega, by omega⟩ dS_tie_108 ?_
        refine gh_aload_n C dS_tie_109 rfl ?_
        refine gh_get C fS_22 ((gh_un (gh_kd (by decide))).trans ((gh_un (gh_kd (by decide))).trans ((gh_mv_o (gh_kd (by decide)) (gh_kd (by decide))).trans gh_us))) rfl dS_tie_110 ?_
        refine gh_aload_n C dS_tie_113 rfl ?_
        refine gh_get C fS_47 ((gh_un (gh_kd (by decide))).trans ((gh_un (gh_kd (by decide))).trans ((gh_mv_o (gh_kd (by decide)) (gh_kd (by decide))).trans gh_us))) rfl dS_tie_114 ?_
        refine gh_iload_n C dS_tie_117 rfl ?_
        refine gh_iastN C (r) ((gh_un (gh_kd (by decide))).trans ((gh_un (gh_kd (by decide))).trans (gh_mv_k.trans ((gh_un (gh_kd (by decide))).trans gh_us)))) rfl rfl ⟨by first | exact hlt | omega, by omega⟩ dS_tie_118 ?_
        refine gh_aload_n C dS_tie_119 rfl ?_
        refine gh_dup C dS_tie_120 rfl ?_
        refine gh_get C fS_47 ((gh_un (gh_kd (by decide))).trans ((gh_un (gh_kd (by decide))).trans ((gh_un (gh_kd (by decide))).trans ((gh_mv_o (gh_kd (by decide)) (gh_kd (by decide))).trans gh_us)))) rfl dS_tie_121 ?_
        refine gh_iconst C 1 dS_tie_124 (by decide) ?_
        refine gh_iadd C dS_tie_125 ?_
        refine gh_ti (nI (r + 1)) (nI_1 r) ?_
        refine gh_putL C [.ref ao, .int (nI n), .ref q34, .ref q52, .ref q70, .int (nI (r + 1))] pS_47 (by decide) ((gh_un (gh_kd (by decide))).trans ((gh_un (gh_kd (by decide))).trans ((gh_un (gh_kd (by decide))).trans ((gh_mv_o (gh_kd (by decide)) (gh_kd (by decide))).trans gh_us)))) rfl (by simp) rfl rfl dS_tie_126 ?_
        refine gh_vret C hQ rfl dS_tie_129 ?_
        exact ⟨rfl, ⟨ao, q34, q52, q70, gh_us, ((gh_un (gh_kd (by decide))).trans ((gh_un (gh_kd (by decide))).trans ((gh_un (gh_kd (by decide))).trans ((gh_un (gh_kd (by decide))).trans ((gh_mv_o (gh_kd (by decide)) (gh_kd (by decide))).trans ((gh_un (gh_kd (by decide))).trans ((gh_un (gh_kd (by decide))).trans ((gh_mv_o (gh_kd (by decide)) (gh_kd (by decide))).trans ((gh_un (gh_kd (by decide))).trans ((gh_un (gh_kd (by decide))).trans ((gh_mv_o (gh_kd (by decide)) (gh_kd (by decide))).trans ((gh_un (gh_kd (by decide))).trans ((gh_un (gh_kd (by decide))).trans h2))))))))))))), ((gh_un (gh_kd (by decide))).trans ((gh_un (gh_kd (by decide))).trans ((gh_un (gh_kd (by decide))).trans gh_us))), ((gh_un (gh_kd (by decide))).trans ((gh_un (gh_kd (by decide))).trans gh_us)), ((gh_un (gh_kd (by decide))).trans gh_us)⟩, (((((((((((((fr.rf.u rfl).u rfl).mv rfl rfl).u rfl).u rfl).mv rfl rfl).u rfl).u rfl).mv rfl rfl).u rfl).u rfl).u rfl).u rfl)⟩
      · first | exact absurd (nI_lt hlt (by omega)) c85 | exact absurd (nI_lt (show r < cap (r + 1) by omega) (by omega)) c85
theorem okS.fresh {n r : Nat} {o f1 f2 f3 : Nat → Int32} (h : okS n r o f1 f2 f3) (hn : n < 4096) : okS (n + 1) r o f1 f2 f3 := ⟨hn, h.2.1, h.2.2.1, fun j hj => h.2.2.2.1 j (by omega), h.2.2.2.2⟩
theorem okS.tie {n r : Nat} {o f1 f2 f3 : Nat → Int32} (h : okS n r o f1 f2 f3) (hr : r < 4096) (x y w : Int32) : okS n (r + 1) o (upd f1 r x) (upd f2 r y) (upd f3 r w) := ⟨h.1, hr, h.2.2.1, h.2.2.2.1, fun j hj => by
  have := h.2.2.2.2 j (by omega)
  simp [upd, show j ≠ r by omega, this]⟩
set_option maxRecDepth 100000 in
set_option maxHeartbeats 4000000 in
theorem c_deriveOfTwo (l : Launch) (d : gh_D) (g : gh_H) {a n r : Nat} {o f1 f2 f3 : Nat → Int32} (hp : pS g a n r o f1 f2 f3) (ok : okS n r o f1 f2 f3) (hn : n < 4096) (hr : r < 4096) (x y : Int32) : gh_C l d mS_deriveOfTwo (rr 4 4 ((2 * cap (n + 1) - 2 * cap n) + (6 * cap (r + 1) - 6 * cap r))) [.ref a, .int x, .int y] g (fun v g1 => v = some (.int (nI n)) ∧ pS g1 a (n + 1) (r + 1) o (upd f1 r x) (upd f2 r y) (upd f3 r (nI n)) ∧ fr kS g g1) := by
  have hp0 := hp
  obtain ⟨ao, a1, a2, a3, h1, h2, h3, h4, h5⟩ := hp
  refine gh_of [some (.ref a), some (.int x), some (.int y), none] (by decide) rfl (Nat.le_of_ble_eq_true rfl) (by simp [Value.category]) (fun z C hQ => ?_)
  show gh_W l d z 0 [some (.ref a), some (.int x), some (.int y), none] [] g 4 ((2 * cap (n + 1) - 2 * cap n) + (6 * cap (r + 1) - 6 * cap r))
  refine gh_aload_n C dS_deriveOfTwo_0 rfl ?_
  refine gh_callV C [] (c_fresh l d g hp0 ok hn) lS_39 wS_fresh vS_fresh h1 rfl rfl rfl (Nat.le_of_ble_eq_true rfl) ⟨Nat.le_of_ble_eq_true rfl, Nat.le_of_ble_eq_true rfl⟩ (Nat.le_of_ble_eq_true rfl) (by show 2 * cap (n + 1) - 2 * cap n ≤ _; omega) dS_deriveOfTwo_1 (fun v1 g1 h1x => ?_)
  obtain ⟨rfl, hp1, hf1⟩ := h1x
  obtain ⟨bo, b1, b2, b3, k1, k2, k3, k4, k5⟩ := id hp1
  refine gh_istore_n C [some (.ref a), some (.int x), some (.int y), some (.int (nI n))] dS_deriveOfTwo_4 rfl (by simp) ?_
  refine gh_aload_n C dS_deriveOfTwo_5 rfl ?_
  refine gh_iload_n C dS_deriveOfTwo_6 rfl ?_
  refine gh_iload_n C dS_deriveOfTwo_7 rfl ?_
  refine gh_iload_n C dS_deriveOfTwo_8 rfl ?_
  refine gh_callV C [.int x, .int y, .int (nI n)] (c_tie l d _ hp1 (ok.fresh hn) hr x y (nI n)) lS_43 wS_tie vS_tie k1 rfl rfl rfl (Nat.le_of_ble_eq_true rfl) ⟨Nat.le_of_ble_eq_true rfl, Nat.le_of_ble_eq_true rfl⟩ (Nat.le_of_ble_eq_true rfl) (by show 6 * cap (r + 1) - 6 * cap r ≤ (2 * cap (n + 1) - 2 * cap n + (6 * cap (r + 1) - 6 * cap r)) - (2 * cap (n + 1) - 2 * cap n); omega) dS_deriveOfTwo_9 (fun v9 g9 h9 => ?_)
  obtain ⟨rfl, hp2, hf2⟩ := h9
  refine gh_iload_n C dS_deriveOfTwo_12 rfl ?_
  refine gh_iret C hQ rfl dS_deriveOfTwo_13 ?_
  exact ⟨rfl, hp2, hf1.trans hf2⟩
set_option maxRecDepth 100000 in
set_option maxHeartbeats 4000000 in
theorem c_derive (l : Launch) (d : gh_D) (g : gh_H) {a n r : Nat} {o f1 f2 f3 : Nat → Int32} (hp : pS g a n r o f1 f2 f3) (ok : okS n r o f1 f2 f3) (hn : n < 4096) (hr : r < 4096) (x : Int32) : gh_C l d mS_derive (rr 5 4 ((2 * cap (n + 1) - 2 * cap n) + (6 * cap (r + 1) - 6 * cap r))) [.ref a, .int x] g (fun v g1 => v = some (.int (nI n)) ∧ pS g1 a (n + 1) (r + 1) o (upd f1 r x) (upd f2 r (-1)) (upd f3 r (nI n)) ∧ fr kS g g1) := by
  obtain ⟨ao, a1, a2, a3, h1, h2, h3, h4, h5⟩ := id hp
  refine gh_of [some (.ref a), some (.int x)] (by decide) rfl (Nat.le_of_ble_eq_true rfl) (by simp [Value.category]) (fun z C hQ => ?_)
  show gh_W l d z 0 [some (.ref a), some (.int x)] [] g 4 ((2 * cap (n + 1) - 2 * cap n) + (6 * cap (r + 1) - 6 * cap r))
  refine gh_aload_n C dS_derive_0 rfl ?_
  refine gh_iload_n C dS_derive_1 rfl ?_
  refine gh_iconst C (-1) dS_derive_2 (by decide) ?_
  refine gh_callV C [.int x, .int (-1)] (c_deriveOfTwo l d g hp ok hn hr x (-1)) lS_35 wS_deriveOfTwo vS_deriveOfTwo h1 rfl rfl rfl (Nat.le_of_ble_eq_true rfl) ⟨Nat.le_of_ble_eq_true rfl, Nat.le_of_ble_eq_true rfl⟩ (Nat.le_of_ble_eq_true rfl) (Nat.le_refl _) dS_derive_3 (fun v3 g3 h3x => ?_)
  obtain ⟨rfl, hp1, hf1⟩ := h3x
  refine gh_iret C hQ rfl dS_derive_6 ?_
  exact ⟨rfl, hp1, hf1⟩
set_option maxRecDepth 100000 in
set_option maxHeartbeats 4000000 in
theorem c_ruleCount (l : Launch) (d : gh_D) (g : gh_H) {a n r : Nat} {o f1 f2 f3 : Nat → Int32} (hp : pS g a n r o f1 f2 f3) (ok : okS n r o f1 f2 f3) : gh_C l d mS_ruleCount (rr 0 0 0) [.ref a] g (fun v g1 => v = some (.int (nI r)) ∧ g1 = g) := by
  obtain ⟨ao, a1, a2, a3, h1, h2, h3, h4, h5⟩ := hp
  refine gh_of [some (.ref a)] (by decide) rfl (Nat.le_of_ble_eq_true rfl) (by simp [Value.category]) (fun z C hQ => ?_)
  show gh_W l d z 0 [some (.ref a)] [] g 0 0
  refine gh_aload_n C dS_ruleCount_0 rfl ?_
  refine gh_get C fS_47 h1 rfl dS_ruleCount_1 ?_
  refine gh_iret C hQ rfl dS_ruleCount_4 ?_
  exact ⟨rfl, rfl⟩
def inn (n : Nat) (x : Int32) : Bool := decide (0 ≤ x) && decide (x < nI n)
theorem inn_of {n : Nat} {x : Int32} (hn : n < 2 ^ 31) (h : inn n x = true) : ∃ j : Nat, j < n ∧ x = nI j := by
  simp only [inn, Bool.and_eq_true, decide_eq_true_eq] at h
  rcases pk_ix x (n := n) hn with h2 | h2 | h2
  · exact absurd h.1 (Int32.not_le.mpr h2)
  · exact absurd h.2 (Int32.not_lt.mpr h2)
  · exact h2
theorem inn_1 {n : Nat} {x : Int32} (h : x < 0) : ¬ inn n x = true := by simp only [inn, Bool.and_eq_true, decide_eq_true_eq]; exact fun q => absurd q.1 (Int32.not_le.mpr h)
theorem inn_2 {n : Nat} {x : Int32} (h : nI n ≤ x) : ¬ inn n x = true := by simp only [inn, Bool.and_eq_true, decide_eq_true_eq]; exact fun q => absurd q.2 (Int32.not_lt.mpr h)
theorem inn_3 {n : Nat} {x : Int32} (h : ¬ x < 0) (h2 : ¬ nI n ≤ x) : inn n x = true := by simp only [inn, Bool.and_eq_true, decide_eq_true_eq]; exact ⟨Int32.not_lt.mp h, Int32.not_le.mp h2⟩
def lrn (n : Nat) (o : Nat → Int32) (x : Int32) : Nat → Int32 := if inn n x = true then upd o x.toNatClampNeg 1 else o
def isO (n : Nat) (o : Nat → Int32) (x : Int32) : Bool := inn n x && decide (o x.toNatClampNeg ≠ 0)
theorem okS_lrn {n r : Nat} {o f1 f2 f3 : Nat → Int32} (h : okS n r o f1 f2 f3) (x : Int32) : okS n r (lrn n o x) f1 f2 f3 := by
  by_cases hx : inn n x = true
  · obtain ⟨j, hj, rfl⟩ := inn_of (by have := h.1; omega) hx
    have hc : (nI j).toNatClampNeg = j := nI_clamp (by have := h.1; omega)
    refine ⟨h.1, h.2.1, fun i => ?_, fun i hi => ?_, h.2.2.2.2⟩
    · simp only [lrn, if_pos hx, hc, upd]
      split
      · exact Or.inr rfl
      · exact h.2.2.1 i
    · simp only [lrn, if_pos hx, hc, upd]
      rw [if_neg (by omega)]
      exact h.2.2.2.1 i hi
  · simp only [lrn, if_neg hx]; exact h
set_option maxRecDepth 100000 in
set_option maxHeartbeats 4000000 in
theorem c_learn (l : Launch) (d : gh_D) (g : gh_H) {a n r : Nat} {o f1 f2 f3 : Nat → Int32} (hp : pS g a n r o f1 f2 f3) (ok : okS n r o f1 f2 f3) (x : Int32) : gh_C l d mS_learn (rr 0 0 0) [.ref a, .int x] g (fun v g1 => v = none ∧ pS g1 a n r (lrn n o x) f1 f2 f3 ∧ fr kS g g1) := by
  obtain ⟨ao, a1, a2, a3, h1, h2, h3, h4, h5⟩ := hp
  have h64 := cap_64 n
  have h65 := cap_64 r
  have hle := cap_le n
  have hge := cap_ge ok.1
  have hn4 := ok.1
  have hr4 := ok.2.1
  refine gh_of [some (.ref a), some (.int x)] (by decide) rfl (Nat.le_of_ble_eq_true rfl) (by simp [Value.category]) (fun z C hQ => ?_)
  show gh_W l d z 0 [some (.ref a), some (.int x)] [] g 0 0
  refine gh_iload_n C dS_learn_0 rfl ?_
  refine gh_if_lt C 19 dS_learn_1 (by decide) (fun c1 => ?_) (fun c1 => ?_)
  ·
    have hx := inn_1 (n := n) c1
    refine gh_vret C hQ rfl dS_learn_19 ?_
    exact ⟨rfl, by first | (rw [lrn, if_neg hx]; exact ⟨ao, a1, a2, a3, h1, h2, h3, h4, h5⟩) | (rw [lrn, if_pos hx, nI_clamp (show j < 2 ^ 31 by omega)]; exact ⟨ao, a1, a2, a3, h1, h2, h3, h4, h5⟩), fr.rf⟩
  ·
    refine gh_iload_n C dS_learn_4 rfl ?_
    refine gh_aload_n C dS_learn_5 rfl ?_
    refine gh_get C fS_25 h1 rfl dS_learn_6 ?_
    refine gh_icmp_ge C 19 dS_learn_9 (by decide) (fun c9 => ?_) (fun c9 => ?_)
    ·
      have hx := inn_2 (n := n) c9
      refine gh_vret C hQ rfl dS_learn_19 ?_
      exact ⟨rfl, by first | (rw [lrn, if_neg hx]; exact ⟨ao, a1, a2, a3, h1, h2, h3, h4, h5⟩) | (rw [lrn, if_pos hx, nI_clamp (show j < 2 ^ 31 by omega)]; exact ⟨ao, a1, a2, a3, h1, h2, h3, h4, h5⟩), fr.rf⟩
    ·
      have hx := inn_3 c1 c9
      obtain ⟨j, hj, rfl⟩ := inn_of (by omega) hx
      refine gh_aload_n C dS_learn_12 rfl ?_
      refine gh_get C fS_11 h1 rfl dS_learn_13 ?_
      refine gh_iload_n C dS_learn_16 rfl ?_
      refine gh_iconst C 1 dS_learn_17 (by decide) ?_
      refine gh_bastN C (j) h2 rfl rfl ⟨by omega, by omega⟩ dS_learn_18 ?_
      refine gh_vret C hQ rfl dS_learn_19 ?_
      exact ⟨rfl, by first | (rw [lrn, if_neg hx]; exact ⟨ao, a1, a2, a3, ((gh_un (gh_kd (by decide))).trans h1), gh_us, ((gh_un (gh_kd (by decide))).trans h3), ((gh_un (gh_kd (by decide))).trans h4), ((gh_un (gh_kd (by decide))).trans h5)⟩) | (rw [lrn, if_pos hx, nI_clamp (show j < 2 ^ 31 by omega)]; exact ⟨ao, a1, a2, a3, ((gh_un (gh_kd (by decide))).trans h1), gh_us, ((gh_un (gh_kd (by decide))).trans h3), ((gh_un (gh_kd (by decide))).trans h4), ((gh_un (gh_kd (by decide))).trans h5)⟩), (fr.rf.u rfl)⟩
set_option maxRecDepth 100000 in
set_option maxHeartbeats 4000000 in
theorem c_isOut (l : Launch) (d : gh_D) (g : gh_H) {a n r : Nat} {o f1 f2 f3 : Nat → Int32} (hp : pS g a n r o f1 f2 f3) (ok : okS n r o f1 f2 f3) (x : Int32) : gh_C l d mS_isOut (rr 0 0 0) [.ref a, .int x] g (fun v g1 => v = some (.int (if isO n o x = true then 1 else 0)) ∧ g1 = g) := by
  obtain ⟨ao, a1, a2, a3, h1, h2, h3, h4, h5⟩ := hp
  have h64 := cap_64 n
  have h65 := cap_64 r
  have hle := cap_le n
  have hge := cap_ge ok.1
  have hn4 := ok.1
  have hr4 := ok.2.1
  refine gh_of [some (.ref a), some (.int x)] (by decide) rfl (Nat.le_of_ble_eq_true rfl) (by simp [Value.category]) (fun z C hQ => ?_)
  show gh_W l d z 0 [some (.ref a), some (.int x)] [] g 0 0
  refine gh_iload_n C dS_isOut_0 rfl ?_
  refine gh_if_lt C 25 dS_isOut_1 (by decide) (fun c1 => ?_) (fun c1 => ?_)
  ·
    have hx := inn_1 (n := n) c1
    have hz : ¬ isO n o x = true := by simp [isO, hx]
    refine gh_iconst C 0 dS_isOut_25 (by decide) ?_
    refine gh_zret C hQ rfl (by simp) dS_isOut_26 ?_
    first | exact ⟨by rw [if_pos hz], rfl⟩ | exact ⟨by rw [if_neg hz], rfl⟩
  ·
    refine gh_iload_n C dS_isOut_4 rfl ?_
    refine gh_aload_n C dS_isOut_5 rfl ?_
    refine gh_get C fS_25 h1 rfl dS_isOut_6 ?_
    refine gh_icmp_ge C 25 dS_isOut_9 (by decide) (fun c9 => ?_) (fun c9 => ?_)
    ·
      have hx := inn_2 (n := n) c9
      have hz : ¬ isO n o x = true := by simp [isO, hx]
      refine gh_iconst C 0 dS_isOut_25 (by decide) ?_
      refine gh_zret C hQ rfl (by simp) dS_isOut_26 ?_
      first | exact ⟨by rw [if_pos hz], rfl⟩ | exact ⟨by rw [if_neg hz], rfl⟩
    ·
      have hx := inn_3 c1 c9
      obtain ⟨j, hj, rfl⟩ := inn_of (by omega) hx
      have hcl := nI_clamp (show j < 2 ^ 31 by omega)
      refine gh_aload_n C dS_isOut_12 rfl ?_
      refine gh_get C fS_11 h1 rfl dS_isOut_13 ?_
      refine gh_iload_n C dS_isOut_16 rfl ?_
      refine gh_baldN C (j) h2 rfl rfl ⟨by omega, by omega⟩ dS_isOut_17 ?_
      refine gh_if_eq C 25 dS_isOut_18 (by decide) (fun c18 => ?_) (fun c18 => ?_)
      ·
        have hz : ¬ isO n o (nI j) = true := by rw [isO, hcl]; simp [c18]
        refine gh_iconst C 0 dS_isOut_25 (by decide) ?_
        refine gh_zret C hQ rfl (by simp) dS_isOut_26 ?_
        first | exact ⟨by rw [if_pos hz], rfl⟩ | exact ⟨by rw [if_neg hz], rfl⟩
      ·
        have hz : isO n o (nI j) = true := by rw [isO, hcl]; simp [c18, hx]
        refine gh_iconst C 1 dS_isOut_21 (by decide) ?_
        refine gh_goto C 26 dS_isOut_22 (by decide) ?_
        refine gh_zret C hQ rfl (by simp) dS_isOut_26 ?_
        first | exact ⟨by rw [if_pos hz], rfl⟩ | exact ⟨by rw [if_neg hz], rfl⟩
def spS (n : Nat) (f1 f2 f3 o : Nat → Int32) (i : Nat) : Nat → Int32 := if isO n o (f1 i) = true ∧ (f2 i = -1 ∨ isO n o (f2 i) = true) then lrn n o (f3 i) else o
def spr (n : Nat) (f1 f2 f3 : Nat → Int32) : Nat → Nat → (Nat → Int32) → Nat → Int32
  | 0, _, o => o
  | c + 1, i, o => spr n f1 f2 f3 c (i + 1) (spS n f1 f2 f3 o i)
theorem okS_sp {n r : Nat} {o f1 f2 f3 : Nat → Int32} (h : okS n r o f1 f2 f3) (i : Nat) : okS n r (spS n f1 f2 f3 o i) f1 f2 f3 := by
  unfold spS
  split
  · exact okS_lrn h _
  · exact h
theorem okS_spr {n r : Nat} {f1 f2 f3 : Nat → Int32} : ∀ (c i : Nat) (o : Nat → Int32), okS n r o f1 f2 f3 → okS n r (spr n f1 f2 f3 c i o) f1 f2 f3
  | 0, _, _, h => h
  | c + 1, i, _, h => okS_spr c (i + 1) _ (okS_sp h i)
theorem xS_max : Cond.methodLink "RatchetGroup$Secrets" 53 Lib.Math.max.name ∈ gh_T := gh_in 708 (by decide +kernel) rfl
set_option maxRecDepth 100000 in
set_option maxHeartbeats 4000000 in
theorem c_spread (l : Launch) (d : gh_D) (g : gh_H) {a n r : Nat} {o f1 f2 f3 : Nat → Int32} (hp : pS g a n r o f1 f2 f3) (ok : okS n r o f1 f2 f3) (k : Nat) (hk : k ≤ r) : gh_C l d mS_spread (rr 1 0 0) [.ref a, .int (nI k)] g (fun v g1 => v = none ∧ pS g1 a n r (spr n f1 f2 f3 (r - k) k o) f1 f2 f3 ∧ fr kS g g1) := by
  refine gh_of [some (.ref a), some (.int (nI k)), none] (by decide) rfl (Nat.le_of_ble_eq_true rfl) (by simp [Value.category]) (fun z C hQ => ?_)
  show gh_W l d z 0 [some (.ref a), some (.int (nI k)), none] [] g 0 0
  have hr4 := ok.2.1
  have loop : ∀ (c i : Nat) (o1 : Nat → Int32) (g1 : gh_H), i + c = r → okS n r o1 f1 f2 f3 → pS g1 a n r o1 f1 f2 f3 → fr kS g g1 → (spr n f1 f2 f3 c i o1 = spr n f1 f2 f3 (r - k) k o) → gh_W l d z 6 [some (.ref a), some (.int (nI k)), some (.int (nI i))] [] g1 0 0 := by
    intro c
    induction c with
    | zero =>
      intro i o1 g1 hi ok1 hp1 hf1 he
      have hi : i = r := by omega
      subst hi
      obtain ⟨ao, a1, a2, a3, h1, h2, h3, h4, h5⟩ := id hp1
      refine gh_iload_n C dS_spread_6 rfl ?_
      refine gh_aload_n C dS_spread_7 rfl ?_
      refine gh_get C fS_47 h1 rfl dS_spread_8 ?_
      refine gh_icmp_ge C 66 dS_spread_11 (by decide) (fun c11 => ?_) (fun c11 => ?_)
      ·
        refine gh_vret C hQ rfl dS_spread_66 ?_
        exact ⟨rfl, by rw [← he]; exact hp1, hf1⟩
      · exact absurd (nI_le (Nat.le_refl i) (by omega)) c11
    | succ c ih =>
      intro i o1 g1 hi ok1 hp1 hf1 he
      have hlt : i < r := by omega
      have hge2 := cap_ge ok.2.1
      have hle2 := cap_le r
      obtain ⟨ao, a1, a2, a3, h1, h2, h3, h4, h5⟩ := id hp1
      refine gh_iload_n C dS_spread_6 rfl ?_
      refine gh_aload_n C dS_spread_7 rfl ?_
      refine gh_get C fS_47 h1 rfl dS_spread_8 ?_
      refine gh_icmp_ge C 66 dS_spread_11 (by decide) (fun c11 => ?_) (fun c11 => ?_)
      · exact absurd c11 (nI_ge hlt (by omega))
      ·
        refine gh_aload_n C dS_spread_14 rfl ?_
        refine gh_aload_n C dS_spread_15 rfl ?_
        refine gh_get C fS_15 h1 rfl dS_spread_16 ?_
        refine gh_iload_n C dS_spread_19 rfl ?_
        refine gh_ialdN C (i) h3 rfl rfl ⟨by omega, by omega⟩ dS_spread_20 ?_
        refine gh_callV C [.int (f1 i)] (c_isOut l d _ hp1 ok1 (f1 i)) lS_58 wS_isOut vS_isOut h1 rfl rfl rfl (Nat.le_of_ble_eq_true rfl) ⟨Nat.le_of_ble_eq_true rfl, Nat.le_of_ble_eq_true rfl⟩ (Nat.le_of_ble_eq_true rfl) (Nat.le_of_ble_eq_true rfl) dS_spread_21 (fun v21 g21 h21 => ?_)
        obtain ⟨rfl, rfl⟩ := h21
        refine gh_if_eq C 60 dS_spread_24 (by decide) (fun c24 => ?_) (fun c24 => ?_)
        ·
          have e24 : ¬ isO n o1 (f1 i) = true := fun h => by rw [if_pos h] at c24; exact absurd c24 (by decide)
          have hc : ¬ (isO n o1 (f1 i) = true ∧ (f2 i = -1 ∨ isO n o1 (f2 i) = true)) := fun h => e24 h.1
          refine gh_iinc C (nI (i + 1)) [some (.ref a), some (.int (nI k)), some (.int (nI (i + 1)))] dS_spread_60 rfl (gh_inc i) rfl ?_
          refine gh_goto C 6 dS_spread_63 (by decide) ?_
          exact ih (i + 1) _ _ (by omega) ok1 hp1 hf1 (by rw [← he]; simp only [spr, spS, if_neg hc])
        ·
          have e24 : isO n o1 (f1 i) = true := by
            by_cases h : isO n o1 (f1 i) = true
            · exact h
            · rw [if_neg h] at c24; exact absurd rfl c24
          refine gh_aload_n C dS_spread_27 rfl ?_
          refine gh_get C fS_19 h1 rfl dS_spread_28 ?_
          refine gh_iload_n C dS_spread_31 rfl ?_
          refine gh_ialdN C (i) h4 rfl rfl ⟨by omega, by omega⟩ dS_spread_32 ?_
          refine gh_iconst C (-1) dS_spread_33 (by decide) ?_
          refine gh_icmp_eq C 50 dS_spread_34 (by decide) (fun c34 => ?_) (fun c34 => ?_)
          ·
            have hc : isO n o1 (f1 i) = true ∧ (f2 i = -1 ∨ isO n o1 (f2 i) = true) := ⟨e24, Or.inl c34⟩
            refine gh_aload_n C dS_spread_50 rfl ?_
            refine gh_aload_n C dS_spread_51 rfl ?_
            refine gh_get C fS_22 h1 rfl dS_spread_52 ?_
            refine gh_iload_n C dS_spread_55 rfl ?_
            refine gh_ialdN C (i) h5 rfl rfl ⟨by omega, by omega⟩ dS_spread_56 ?_
            refine gh_callV C [.int (f3 i)] (c_learn l d _ hp1 ok1 (f3 i)) lS_62 wS_learn vS_learn h1 rfl rfl rfl (Nat.le_of_ble_eq_true rfl) ⟨Nat.le_of_ble_eq_true rfl, Nat.le_of_ble_eq_true rfl⟩ (Nat.le_of_ble_eq_true rfl) (Nat.le_of_ble_eq_true rfl) dS_spread_57 (fun v57 g57 h57 => ?_)
            obtain ⟨rfl, hp2, hf2⟩ := h57
            refine gh_iinc C (nI (i + 1)) [some (.ref a), some (.int (nI k)), some (.int (nI (i + 1)))] dS_spread_60 rfl (gh_inc i) rfl ?_
            refine gh_goto C 6 dS_spread_63 (by decide) ?_
            exact ih (i + 1) _ _ (by omega) (okS_lrn ok1 (f3 i)) hp2 (hf1.trans hf2) (by rw [← he]; simp only [spr, spS, if_pos hc])
          ·
            refine gh_aload_n C dS_spread_37 rfl ?_
            refine gh_aload_n C dS_spread_38 rfl ?_
            refine gh_get C fS_19 h1 rfl dS_spread_39 ?_
            refine gh_iload_n C dS_spread_42 rfl ?_
            refine gh_ialdN C (i) h4 rfl rfl ⟨by omega, by omega⟩ dS_spread_43 ?_
            refine gh_callV C [.int (f2 i)] (c_isOut l d _ hp1 ok1 (f2 i)) lS_58 wS_isOut vS_isOut h1 rfl rfl rfl (Nat.le_of_ble_eq_true rfl) ⟨Nat.le_of_ble_eq_true rfl, Nat.le_of_ble_eq_true rfl⟩ (Nat.le_of_ble_eq_true rfl) (Nat.le_of_ble_eq_true rfl) dS_spread_44 (fun v44 g44 h44 => ?_)
            obtain ⟨rfl, rfl⟩ := h44
            refine gh_if_eq C 60 dS_spread_47 (by decide) (fun c47 => ?_) (fun c47 => ?_)
            ·
              have e47 : ¬ isO n o1 (f2 i) = true := fun h => by rw [if_pos h] at c47; exact absurd c47 (by decide)
              have hc : ¬ (isO n o1 (f1 i) = true ∧ (f2 i = -1 ∨ isO n o1 (f2 i) = true)) := fun h => h.2.elim c34 e47
              refine gh_iinc C (nI (i + 1)) [some (.ref a), some (.int (nI k)), some (.int (nI (i + 1)))] dS_spread_60 rfl (gh_inc i) rfl ?_
              refine gh_goto C 6 dS_spread_63 (by decide) ?_
              exact ih (i + 1) _ _ (by omega) ok1 hp1 hf1 (by rw [← he]; simp only [spr, spS, if_neg hc])
            ·
              have e47 : isO n o1 (f2 i) = true := by
                by_cases h : isO n o1 (f2 i) = true
                · exact h
                · rw [if_neg h] at c47; exact absurd rfl c47
              have hc : isO n o1 (f1 i) = true ∧ (f2 i = -1 ∨ isO n o1 (f2 i) = true) := ⟨e24, Or.inr e47⟩
              refine gh_aload_n C dS_spread_50 rfl ?_
              refine gh_aload_n C dS_spread_51 rfl ?_
              refine gh_get C fS_22 h1 rfl dS_spread_52 ?_
              refine gh_iload_n C dS_spread_55 rfl ?_
              refine gh_ialdN C (i) h5 rfl rfl ⟨by omega, by omega⟩ dS_spread_56 ?_
              refine gh_callV C [.int (f3 i)] (c_learn l d _ hp1 ok1 (f3 i)) lS_62 wS_learn vS_learn h1 rfl rfl rfl (Nat.le_of_ble_eq_true rfl) ⟨Nat.le_of_ble_eq_true rfl, Nat.le_of_ble_eq_true rfl⟩ (Nat.le_of_ble_eq_true rfl) (Nat.le_of_ble_eq_true rfl) dS_spread_57 (fun v57 g57 h57 => ?_)
              obtain ⟨rfl, hp2, hf2⟩ := h57
              refine gh_iinc C (nI (i + 1)) [some (.ref a), some (.int (nI k)), some (.int (nI (i + 1)))] dS_spread_60 rfl (gh_inc i) rfl ?_
              refine gh_goto C 6 dS_spread_63 (by decide) ?_
              exact ih (i + 1) _ _ (by omega) (okS_lrn ok1 (f3 i)) hp2 (hf1.trans hf2) (by rw [← he]; simp only [spr, spS, if_pos hc])
  refine gh_iload_n C dS_spread_0 rfl ?_
  refine gh_iconst C 0 dS_spread_1 (by decide) ?_
  refine gh_max C k 0 (Nat.zero_le k) (by omega) xS_max ⟨Nat.le_of_ble_eq_true rfl, Nat.le_of_ble_eq_true rfl⟩ (Nat.le_of_ble_eq_true rfl) dS_spread_2 ?_
  refine gh_istore_n C [some (.ref a), some (.int (nI k)), some (.int (nI k))] dS_spread_5 rfl (by simp) ?_
  exact loop (r - k) k o g (by omega) ok hp fr.rf rfl
end
section
theorem xC_1 : Cond.methodLink "java/util/Arrays" 316 ⟨"[I", "clone", "()Ljava/lang/Object;"⟩ ∈ gh_T := gh_in 571 (by decide +kernel) rfl
theorem xC_2 : Cond.sameMethod "[I" "java/lang/Object" "clone" "()Ljava/lang/Object;" ∈ gh_T := gh_in 572 (by decide +kernel) rfl
theorem xC_3 : Cond.native ⟨"java/lang/Object", "clone", "()Ljava/lang/Object;"⟩ ∈ gh_T := gh_in 232 (by decide +kernel) rfl
theorem xC_4 : Cond.instanceMethod ⟨"java/lang/Object", "clone", "()Ljava/lang/Object;"⟩ ∈ gh_T := gh_in 233 (by decide +kernel) rfl
theorem xC_5 : Cond.selects "[I" ⟨"[I", "clone", "()Ljava/lang/Object;"⟩ ⟨"java/lang/Object", "clone", "()Ljava/lang/Object;"⟩ ∈ gh_T := gh_in 573 (by decide +kernel) rfl
theorem xC_6 : Cond.castable "[I" "java/lang/Cloneable" ∈ gh_nw := List.mem_of_getElem? (i := 10) rfl
theorem xC_7 : Cond.classLink "java/util/Arrays" 317 "[I" ∈ gh_T := gh_in 575 (by decide +kernel) rfl
theorem arrV_fit (cA : ClassId) (n : Nat) (f : Nat → Int32) (i : Nat) (v : Value) (h : (vp_cell cA (n, .inl f)).slots[i]? = some v) : fits .int v = true := by
  rw [vp_cell_i] at h
  have hi : i < (arrV cA n (fun j => .int (f j))).slots.size := (Array.getElem?_eq_some_iff.mp h).1
  rw [arrV_size] at hi
  rw [arrV_read _ _ hi] at h
  cases h
  rfl
set_option maxRecDepth 100000 in
set_option maxHeartbeats 4000000 in
theorem c_cloneI (l : Launch) (d : gh_D) (g : gh_H) {a n : Nat} {K : gh_K} {f : Nat → Int32} (hg : g K = some (a, .inl (0, n, .inl f))) (hK : K ≠ (61, 0)) : gh_C l d mA_copyOf1 (rr 2 1 n) [.ref a, .int (nI n)] g (fun v g1 => ∃ q : Nat, v = some (.ref q) ∧ g1 = gh_u g (61, 0) (q, .inl (0, n, .inl f))) := by
  refine gh_of [some (.ref a), some (.int (nI n)), none] (by decide) rfl (Nat.le_of_ble_eq_true rfl) (by simp [Value.category]) (fun z C hQ => ?_)
  show gh_W l d z 0 [some (.ref a), some (.int (nI n)), none] [] g 1 n
  refine gh_iload_n C dA_copyOf1_0 rfl ?_
  refine gh_aload_n C dA_copyOf1_1 rfl ?_
  refine gh_alen C hg rfl dA_copyOf1_2 ?_
  refine gh_icmp_ne C 14 dA_copyOf1_3 (by decide) (fun c3 => ?_) (fun c3 => ?_)
  · exact absurd rfl c3
  ·
    refine gh_aload_n C dA_copyOf1_6 rfl ?_
    refine gh_clone C (61, 0) xC_1 xC_2 xC_3 xC_4 xC_5 xC_6 hg rfl (fun C1 h => by cases h) (by decide) (fun cA i v h => arrV_fit cA n f i v h) ⟨Nat.le_of_ble_eq_true rfl, Nat.le_of_ble_eq_true rfl⟩ (Nat.le_of_ble_eq_true rfl) 0 0 (Nat.le_refl 1) (by show 0 + n ≤ n; omega) dA_copyOf1_7 (fun q nq => ?_)
    refine gh_castA C xC_7 gh_us rfl (fun C1 h => by cases h) (by decide) dA_copyOf1_10 ?_
    refine gh_aret C hQ rfl (Or.inr ⟨_, rfl⟩) (Or.inr ⟨_, rfl⟩) dA_copyOf1_13 ?_
    exact ⟨q, rfl, rfl⟩
/-! constructors of trees, epochs, packages, proposals -/
def kT (k : Nat) : Bool := k == 13 || k == 14 || k == 15 || k == 16 || decide (60 ≤ k)
theorem fl31 (x : Int32) (f : Nat → Int32) (j : Nat) (h : j < 31) : fl 31 x f j = x := if_pos h
def pT0 (g : gh_H) (e D t ka ba ua : Nat) (K B U : Nat → Int32) : Prop := g (13, e) = some (t, .inr (4, [.int (nI D), .ref ka, .ref ba, .ref ua])) ∧ g (14, e) = some (ka, .inl (0, 31, .inl K)) ∧ g (15, e) = some (ba, .inl (0, 31, .inl B)) ∧ g (16, e) = some (ua, .inl (0, 31, .inl U))
set_option maxRecDepth 100000 in
set_option maxHeartbeats 4000000 in
theorem c_Tree0 (l : Launch) (d : gh_D) (g : gh_H) {e t : Nat} (hg : g (13, e) = some (t, .inr (4, [.int 0, .null, .null, .null]))) : gh_C l d mT_init0 (rr 1 3 93) [.ref t] g (fun v g1 => v = none ∧ (∃ ka ba ua : Nat, pT g1 e 0 t ka ba ua (fl 31 (-1) (fun _ => 0)) (fl 31 (-1) (fun _ => 0)) (fun _ => 0)) ∧ fr kT g g1) := by
  refine gh_of [some (.ref t)] (by decide) rfl (Nat.le_of_ble_eq_true rfl) (by simp [Value.category]) (fun z C hQ => ?_)
  show gh_W l d z 0 [some (.ref t)] [] g 3 93
  refine gh_aload_n C dT_init0_0 rfl ?_
  refine gh_obj C oT_3 oo_i oo_c (Nat.le_of_ble_eq_true rfl) ⟨Nat.le_of_ble_eq_true rfl, Nat.le_of_ble_eq_true rfl⟩ dT_init0_1 ?_
  refine gh_aload_n C dT_init0_4 rfl ?_
  refine gh_bipush C 31 dT_init0_5 (by decide) ?_
  refine gh_newaI C (14, e) (31) ⟨rfl, by decide⟩ 2 62 (by omega) (by omega) dT_init0_7 (fun ka nka => ?_)
  refine gh_putL C [.int 0, .ref ka, .null, .null] pT_9 (by decide) ((gh_un (gh_kd (by decide))).trans hg) rfl (by simp) rfl rfl dT_init0_9 ?_
  refine gh_aload_n C dT_init0_12 rfl ?_
  refine gh_bipush C 31 dT_init0_13 (by decide) ?_
  refine gh_newaI C (15, e) (31) ⟨rfl, by decide⟩ 1 31 (by omega) (by omega) dT_init0_15 (fun ba nba => ?_)
  refine gh_putL C [.int 0, .ref ka, .ref ba, .null] pT_15 (by decide) ((gh_un (gh_kd (by decide))).trans gh_us) rfl (by simp) rfl rfl dT_init0_17 ?_
  refine gh_aload_n C dT_init0_20 rfl ?_
  refine gh_bipush C 31 dT_init0_21 (by decide) ?_
  refine gh_newaI C (16, e) (31) ⟨rfl, by decide⟩ 0 0 (by omega) (by omega) dT_init0_23 (fun ua nua => ?_)
  refine gh_putL C [.int 0, .ref ka, .ref ba, .ref ua] pT_18 (by decide) ((gh_un (gh_kd (by decide))).trans gh_us) rfl (by simp) rfl rfl dT_init0_25 ?_
  refine gh_aload_n C dT_init0_28 rfl ?_
  refine gh_get C fT_9 gh_us rfl dT_init0_29 ?_
  refine gh_iconst C (-1) dT_init0_32 (by decide) ?_
  refine gh_callS C [.ref ka, .int (-1)] (c_fill l d _ (-1) ((gh_un (gh_kd (by decide))).trans ((gh_un (gh_kd (by decide))).trans ((gh_un (gh_kd (by decide))).trans ((gh_un (gh_kd (by decide))).trans ((gh_un (gh_kd (by decide))).trans gh_us))))) (by decide)) lT_21 wA_fill sA_fill rfl rfl (Nat.le_of_ble_eq_true rfl) ⟨Nat.le_of_ble_eq_true rfl, Nat.le_of_ble_eq_true rfl⟩ (Nat.le_of_ble_eq_true rfl) (Nat.le_of_ble_eq_true rfl) dT_init0_33 (fun v33 g33 h33 => ?_)
  obtain ⟨rfl, rfl⟩ := h33
  refine gh_aload_n C dT_init0_36 rfl ?_
  refine gh_get C fT_15 ((gh_un (gh_kd (by decide))).trans gh_us) rfl dT_init0_37 ?_
  refine gh_iconst C (-1) dT_init0_40 (by decide) ?_
  refine gh_callS C [.ref ba, .int (-1)] (c_fill l d _ (-1) ((gh_un (gh_kd (by decide))).trans ((gh_un (gh_kd (by decide))).trans ((gh_un (gh_kd (by decide))).trans ((gh_un (gh_kd (by decide))).trans gh_us)))) (by decide)) lT_21 wA_fill sA_fill rfl rfl (Nat.le_of_ble_eq_true rfl) ⟨Nat.le_of_ble_eq_true rfl, Nat.le_of_ble_eq_true rfl⟩ (Nat.le_of_ble_eq_true rfl) (Nat.le_of_ble_eq_true rfl) dT_init0_41 (fun v41 g41 h41 => ?_)
  obtain ⟨rfl, rfl⟩ := h41
  refine gh_vret C hQ rfl dT_init0_44 ?_
  exact ⟨rfl, ⟨ka, ba, ua, ((gh_un (gh_kd (by decide))).trans ((gh_un (gh_kd (by decide))).trans gh_us)), ((gh_un (gh_kd (by decide))).trans gh_us), gh_us, ((gh_un (gh_kd (by decide))).trans ((gh_un (gh_kd (by decide))).trans ((gh_un (gh_kd (by decide))).trans gh_us))), by decide⟩, ((((((((fr.rf.u rfl).u rfl).u rfl).u rfl).u rfl).u rfl).u rfl).u rfl)⟩
set_option maxRecDepth 100000 in
set_option maxHeartbeats 4000000 in
theorem c_Tree1 (l : Launch) (d : gh_D) (g : gh_H) {e t e0 D t0 ka ba ua : Nat} {K B U : Nat → Int32} (hp : pT g e0 D t0 ka ba ua K B U) (he : e0 ≠ e) (hg : g (13, e) = some (t, .inr (4, [.int 0, .null, .null, .null]))) : gh_C l d mT_init1 (rr 3 3 93) [.ref t, .ref t0] g (fun v g1 => v = none ∧ (∃ kb bb ub : Nat, pT g1 e D t kb bb ub K B U) ∧ fr kT g g1 ∧ (∀ i : Nat, i ≠ e → g1 (13, i) = g (13, i) ∧ g1 (14, i) = g (14, i) ∧ g1 (15, i) = g (15, i) ∧ g1 (16, i) = g (16, i))) := by
  refine gh_of [some (.ref t), some (.ref t0)] (by decide) rfl (Nat.le_of_ble_eq_true rfl) (by simp [Value.category]) (fun z C hQ => ?_)
  show gh_W l d z 0 [some (.ref t), some (.ref t0)] [] g 3 93
  refine gh_aload_n C dT_init1_0 rfl ?_
  refine gh_obj C oT_3 oo_i oo_c (Nat.le_of_ble_eq_true rfl) ⟨Nat.le_of_ble_eq_true rfl, Nat.le_of_ble_eq_true rfl⟩ dT_init1_1 ?_
  refine gh_aload_n C dT_init1_4 rfl ?_
  refine gh_aload_n C dT_init1_5 rfl ?_
  refine gh_get C fT_27 hp.1 rfl dT_init1_6 ?_
  refine gh_putL C [.int (nI D), .null, .null, .null] pT_27 (by decide) hg rfl (by simp) rfl rfl dT_init1_9 ?_
  refine gh_aload_n C dT_init1_12 rfl ?_
  refine gh_aload_n C dT_init1_13 rfl ?_
  refine gh_get C fT_9 ((gh_un (gh_kx (by omega))).trans hp.1) rfl dT_init1_14 ?_
  refine gh_bipush C 31 dT_init1_17 (by decide) ?_
  refine gh_callS C [.ref ka, .int 31] (c_cloneI l d _ ((gh_un (gh_kd (by decide))).trans hp.2.1) (gh_kd (by decide))) lT_31 wA_copyOf1 sA_copyOf1 rfl rfl (Nat.le_of_ble_eq_true rfl) ⟨Nat.le_of_ble_eq_true rfl, Nat.le_of_ble_eq_true rfl⟩ (by dsimp only [rr]; omega) (by dsimp only [rr]; omega) dT_init1_19 (fun v19 g19 h19 => ?_)
  obtain ⟨q1, rfl, rfl⟩ := h19
  refine gh_putL C [.int (nI D), .ref q1, .null, .null] pT_9 (by decide) ((gh_un (gh_kd (by decide))).trans gh_us) rfl (by simp) rfl rfl dT_init1_22 ?_
  refine gh_move C (61, 0) (14, e) ?_
  refine gh_aload_n C dT_init1_25 rfl ?_
  refine gh_aload_n C dT_init1_26 rfl ?_
  refine gh_get C fT_15 ((gh_mv_o (gh_kd (by decide)) (gh_kd (by decide))).trans ((gh_un (gh_kx (by omega))).trans ((gh_un (gh_kd (by decide))).trans ((gh_un (gh_kx (by omega))).trans hp.1)))) rfl dT_init1_27 ?_
  refine gh_bipush C 31 dT_init1_30 (by decide) ?_
  refine gh_callS C [.ref ba, .int 31] (c_cloneI l d _ ((gh_mv_o (gh_kd (by decide)) (gh_kd (by decide))).trans ((gh_un (gh_kd (by decide))).trans ((gh_un (gh_kd (by decide))).trans ((gh_un (gh_kd (by decide))).trans hp.2.2.1)))) (gh_kd (by decide))) lT_31 wA_copyOf1 sA_copyOf1 rfl rfl (Nat.le_of_ble_eq_true rfl) ⟨Nat.le_of_ble_eq_true rfl, Nat.le_of_ble_eq_true rfl⟩ (by dsimp only [rr]; omega) (by dsimp only [rr]; omega) dT_init1_32 (fun v32 g32 h32 => ?_)
  obtain ⟨q2, rfl, rfl⟩ := h32
  refine gh_putL C [.int (nI D), .ref q1, .ref q2, .null] pT_15 (by decide) ((gh_un (gh_kd (by decide))).trans ((gh_mv_o (gh_kd (by decide)) (gh_kd (by decide))).trans gh_us)) rfl (by simp) rfl rfl dT_init1_35 ?_
  refine gh_move C (61, 0) (15, e) ?_
  refine gh_aload_n C dT_init1_38 rfl ?_
  refine gh_aload_n C dT_init1_39 rfl ?_
  refine gh_get C fT_18 ((gh_mv_o (gh_kd (by decide)) (gh_kd (by decide))).trans ((gh_un (gh_kx (by omega))).trans ((gh_un (gh_kd (by decide))).trans ((gh_mv_o (gh_kd (by decide)) (gh_kd (by decide))).trans ((gh_un (gh_kx (by omega))).trans ((gh_un (gh_kd (by decide))).trans ((gh_un (gh_kx (by omega))).trans hp.1))))))) rfl dT_init1_40 ?_
  refine gh_bipush C 31 dT_init1_43 (by decide) ?_
  refine gh_callS C [.ref ua, .int 31] (c_cloneI l d _ ((gh_mv_o (gh_kd (by decide)) (gh_kd (by decide))).trans ((gh_un (gh_kd (by decide))).trans ((gh_un (gh_kd (by decide))).trans ((gh_mv_o (gh_kd (by decide)) (gh_kd (by decide))).trans ((gh_un (gh_kd (by decide))).trans ((gh_un (gh_kd (by decide))).trans ((gh_un (gh_kd (by decide))).trans hp.2.2.2.1))))))) (gh_kd (by decide))) lT_31 wA_copyOf1 sA_copyOf1 rfl rfl (Nat.le_of_ble_eq_true rfl) ⟨Nat.le_of_ble_eq_true rfl, Nat.le_of_ble_eq_true rfl⟩ (by dsimp only [rr]; omega) (by dsimp only [rr]; omega) dT_init1_45 (fun v45 g45 h45 => ?_)
  obtain ⟨q3, rfl, rfl⟩ := h45
  refine gh_putL C [.int (nI D), .ref q1, .ref q2, .ref q3] pT_18 (by decide) ((gh_un (gh_kd (by decide))).trans ((gh_mv_o (gh_kd (by decide)) (gh_kd (by decide))).trans gh_us)) rfl (by simp) rfl rfl dT_init1_48 ?_
  refine gh_move C (61, 0) (16, e) ?_
  refine gh_vret C hQ rfl dT_init1_51 ?_
  refine ⟨rfl, ⟨q1, q2, q3, ((gh_mv_o (gh_kd (by decide)) (gh_kd (by decide))).trans gh_us), ((gh_mv_o (gh_kd (by decide)) (gh_kd (by decide))).trans ((gh_un (gh_kd (by decide))).trans ((gh_un (gh_kd (by decide))).trans ((gh_mv_o (gh_kd (by decide)) (gh_kd (by decide))).trans ((gh_un (gh_kd (by decide))).trans ((gh_un (gh_kd (by decide))).trans (gh_mv_k.trans ((gh_un (gh_kd (by decide))).trans gh_us)))))))), ((gh_mv_o (gh_kd (by decide)) (gh_kd (by decide))).trans ((gh_un (gh_kd (by decide))).trans ((gh_un (gh_kd (by decide))).trans (gh_mv_k.trans ((gh_un (gh_kd (by decide))).trans gh_us))))), (gh_mv_k.trans ((gh_un (gh_kd (by decide))).trans gh_us)), hp.2.2.2.2⟩, ((((((((((fr.rf.u rfl).u rfl).u rfl).mv rfl rfl).u rfl).u rfl).mv rfl rfl).u rfl).u rfl).mv rfl rfl), fun i hi => ?_⟩
  simp [gh_mv, gh_u, hi]
set_option maxRecDepth 100000 in
set_option maxHeartbeats 4000000 in
theorem c_Epoch (l : Launch) (d : gh_D) (g : gh_H) {e a t : Nat} (x y : Int32) (hg : g (12, e) = some (a, .inr (3, [.int 0, .null, .int 0, .int 0, .int 0, .int 0, .int 0, .int 0, .int 0]))) : gh_C l d mE_init (rr 1 0 0) [.ref a, .int x, .ref t, .int y] g (fun v g1 => v = none ∧ g1 = gh_u g (12, e) (a, .inr (3, [.int x, .ref t, .int y, .int (-1), .int 0, .int 0, .int 0, .int 0, .int 0]))) := by
  refine gh_of [some (.ref a), some (.int x), some (.ref t), some (.int y)] (by decide) rfl (Nat.le_of_ble_eq_true rfl) (by simp [Value.category]) (fun z C hQ => ?_)
  show gh_W l d z 0 [some (.ref a), some (.int x), some (.ref t), some (.int y)] [] g 0 0
  refine gh_aload_n C dE_init_0 rfl ?_
  refine gh_obj C oE_3 oo_i oo_c (Nat.le_of_ble_eq_true rfl) ⟨Nat.le_of_ble_eq_true rfl, Nat.le_of_ble_eq_true rfl⟩ dE_init_1 ?_
  refine gh_aload_n C dE_init_4 rfl ?_
  refine gh_iconst C (-1) dE_init_5 (by decide) ?_
  refine gh_putL C [.int 0, .null, .int 0, .int (-1), .int 0, .int 0, .int 0, .int 0, .int 0] pE_9 (by decide) hg rfl (by simp) rfl rfl dE_init_6 ?_
  refine gh_aload_n C dE_init_9 rfl ?_
  refine gh_iload_n C dE_init_10 rfl ?_
  refine gh_putL C [.int x, .null, .int 0, .int (-1), .int 0, .int 0, .int 0, .int 0, .int 0] pE_15 (by decide) gh_us rfl (by simp) rfl rfl dE_init_11 ?_
  refine gh_aload_n C dE_init_14 rfl ?_
  refine gh_aload_n C dE_init_15 rfl ?_
  refine gh_putL C [.int x, .ref t, .int 0, .int (-1), .int 0, .int 0, .int 0, .int 0, .int 0] pE_18 (by decide) gh_us rfl (by simp) rfl rfl dE_init_16 ?_
  refine gh_aload_n C dE_init_19 rfl ?_
  refine gh_iload_n C dE_init_20 rfl ?_
  refine gh_putL C [.int x, .ref t, .int y, .int (-1), .int 0, .int 0, .int 0, .int 0, .int 0] pE_22 (by decide) gh_us rfl (by simp) rfl rfl dE_init_21 ?_
  refine gh_vret C hQ rfl dE_init_24 ?_
  exact ⟨rfl, by rw [gh_uu, gh_uu, gh_uu]⟩
set_option maxRecDepth 100000 in
set_option maxHeartbeats 4000000 in
theorem c_KeyPackage (l : Launch) (d : gh_D) (g : gh_H) {p a : Nat} (x y w : Int32) (hg : g (18, p) = some (a, .inr (5, [.int 0, .int 0, .int 0, .int 0, .int 0, .int 0]))) : gh_C l d mK_init (rr 1 0 0) [.ref a, .int x, .int y, .int w] g (fun v g1 => v = none ∧ g1 = gh_u g (18, p) (a, .inr (5, [.int x, .int y, .int w, .int (-1), .int (-1), .int 0]))) := by
  refine gh_of [some (.ref a), some (.int x), some (.int y), some (.int w)] (by decide) rfl (Nat.le_of_ble_eq_true rfl) (by simp [Value.category]) (fun z C hQ => ?_)
  show gh_W l d z 0 [some (.ref a), some (.int x), some (.int y), some (.int w)] [] g 0 0
  refine gh_aload_n C dK_init_0 rfl ?_
  refine gh_obj C oK_3 oo_i oo_c (Nat.le_of_ble_eq_true rfl) ⟨Nat.le_of_ble_eq_true rfl, Nat.le_of_ble_eq_true rfl⟩ dK_init_1 ?_
  refine gh_aload_n C dK_init_4 rfl ?_
  refine gh_iconst C (-1) dK_init_5 (by decide) ?_
  refine gh_putL C [.int 0, .int 0, .int 0, .int (-1), .int 0, .int 0] pK_9 (by decide) hg rfl (by simp) rfl rfl dK_init_6 ?_
  refine gh_aload_n C dK_init_9 rfl ?_
  refine gh_iconst C (-1) dK_init_10 (by decide) ?_
  refine gh_putL C [.int 0, .int 0, .int 0, .int (-1), .int (-1), .int 0] pK_15 (by decide) gh_us rfl (by simp) rfl rfl dK_init_11 ?_
  refine gh_aload_n C dK_init_14 rfl ?_
  refine gh_iload_n C dK_init_15 rfl ?_
  refine gh_putL C [.int x, .int 0, .int 0, .int (-1), .int (-1), .int 0] pK_18 (by decide) gh_us rfl (by simp) rfl rfl dK_init_16 ?_
  refine gh_aload_n C dK_init_19 rfl ?_
  refine gh_iload_n C dK_init_20 rfl ?_
  refine gh_putL C [.int x, .int y, .int 0, .int (-1), .int (-1), .int 0] pK_21 (by decide) gh_us rfl (by simp) rfl rfl dK_init_21 ?_
  refine gh_aload_n C dK_init_24 rfl ?_
  refine gh_iload_n C dK_init_25 rfl ?_
  refine gh_putL C [.int x, .int y, .int w, .int (-1), .int (-1), .int 0] pK_24 (by decide) gh_us rfl (by simp) rfl rfl dK_init_26 ?_
  refine gh_vret C hQ rfl dK_init_29 ?_
  exact ⟨rfl, by rw [gh_uu, gh_uu, gh_uu, gh_uu]⟩
set_option maxRecDepth 100000 in
set_option maxHeartbeats 4000000 in
theorem c_Proposal (l : Launch) (d : gh_D) (g : gh_H) {p a : Nat} (x y w : Int32) (hg : g (62, p) = some (a, .inr (6, [.int 0, .int 0, .int 0]))) : gh_C l d mP_init (rr 1 0 0) [.ref a, .int x, .int y, .int w] g (fun v g1 => v = none ∧ g1 = gh_u g (62, p) (a, .inr (6, [.int x, .int y, .int w]))) := by
  refine gh_of [some (.ref a), some (.int x), some (.int y), some (.int w)] (by decide) rfl (Nat.le_of_ble_eq_true rfl) (by simp [Value.category]) (fun z C hQ => ?_)
  show gh_W l d z 0 [some (.ref a), some (.int x), some (.int y), some (.int w)] [] g 0 0
  refine gh_aload_n C dP_init_0 rfl ?_
  refine gh_obj C oP_1 oo_i oo_c (Nat.le_of_ble_eq_true rfl) ⟨Nat.le_of_ble_eq_true rfl, Nat.le_of_ble_eq_true rfl⟩ dP_init_1 ?_
  refine gh_aload_n C dP_init_4 rfl ?_
  refine gh_iload_n C dP_init_5 rfl ?_
  refine gh_putL C [.int x, .int 0, .int 0] pP_7 (by decide) hg rfl (by simp) rfl rfl dP_init_6 ?_
  refine gh_aload_n C dP_init_9 rfl ?_
  refine gh_iload_n C dP_init_10 rfl ?_
  refine gh_putL C [.int x, .int y, .int 0] pP_13 (by decide) gh_us rfl (by simp) rfl rfl dP_init_11 ?_
  refine gh_aload_n C dP_init_14 rfl ?_
  refine gh_iload_n C dP_init_15 rfl ?_
  refine gh_putL C [.int x, .int y, .int w] pP_16 (by decide) gh_us rfl (by simp) rfl rfl dP_init_16 ?_
  refine gh_vret C hQ rfl dP_init_19 ?_
  exact ⟨rfl, by rw [gh_uu, gh_uu]⟩
end
section
/-! trees: blanking a path, marking, shrinking, room, resolutions -/
def pth (a i v : Nat) : Bool := (List.range i).any (fun h => pn a h == v)
def bl (a i : Nat) (x : Int32) (f : Nat → Int32) : Nat → Int32 := fun v => if pth a i v = true then x else f v
theorem bl_0 (a : Nat) (x : Int32) (f : Nat → Int32) : bl a 0 x f = f := by funext v; simp [bl, pth]
theorem bl_s (a i : Nat) (x : Int32) (f : Nat → Int32) : upd (bl a i x f) (pn a i) x = bl a (i + 1) x f := by
  funext v
  simp only [upd, bl, pth, List.range_succ, List.any_append, List.any_cons, List.any_nil, Bool.or_false]
  by_cases h : v = pn a i
  · subst h; simp
  · have h2 : ¬ pn a i = v := fun q => h q.symm
    simp [h, h2]
theorem pn_w1 : ∀ D, D ≤ 4 → ∀ h, h ≤ D → ∀ a, a < 2 ^ D → pn a h < tW D := by decide +kernel
theorem pow_le : ∀ D, D ≤ 4 → 2 ^ D ≤ 16 := by decide +kernel
theorem tput_n {D v : Nat} (hD : D ≤ 4) (hv : v < tW D) (f : Nat → Int32) (x : Int32) : tput D f (nI v) x = upd f v x := by
  have h31 := tW_le hD
  have h : thr D (nI v) = true := by rw [thr_n hD (by omega)]; simp [hv]
  simp only [tput, if_pos h]
  rw [nI_clamp (by omega)]
theorem tkey_n {D v : Nat} (hD : D ≤ 4) (hv : v < tW D) (f : Nat → Int32) : (if thr D (nI v) = true then f (nI v).toNatClampNeg else -1) = f v := by
  have h31 := tW_le hD
  have h : thr D (nI v) = true := by rw [thr_n hD (by omega)]; simp [hv]
  rw [if_pos h, nI_clamp (by omega)]
set_option maxRecDepth 100000 in
set_option maxHeartbeats 4000000 in
theorem c_blankPath (l : Launch) (d : gh_D) (g : gh_H) {e D t ka ba ua : Nat} {K B U : Nat → Int32} (hp : pT g e D t ka ba ua K B U) (a : Nat) (ha : a < 2 ^ D) : gh_C l d mT_blankLeafAndPath (rr 3 0 0) [.ref t, .int (nI a)] g (fun v g1 => v = none ∧ g1 = tset g e ka ba ua (bl a (D + 1) (-1) K) (bl a (D + 1) (-1) B) (bl a (D + 1) 0 U)) := by
  refine gh_of [some (.ref t), some (.int (nI a)), none] (by decide) rfl (Nat.le_of_ble_eq_true rfl) (by simp [Value.category]) (fun z C hQ => ?_)
  show gh_W l d z 0 [some (.ref t), some (.int (nI a)), none] [] g 0 0
  have hD := hp.2.2.2.2
  have h16 := pow_le D hD
  have loop : ∀ (c i : Nat), i + c = D + 1 → gh_W l d z 2 [some (.ref t), some (.int (nI a)), some (.int (nI i))] [] (tset g e ka ba ua (bl a i (-1) K) (bl a i (-1) B) (bl a i 0 U)) 0 0 := by
    intro c
    induction c with
    | zero =>
      intro i hi
      have hi : i = D + 1 := by omega
      subst hi
      have hp1 := tset_pT hp (bl a (D + 1) (-1) K) (bl a (D + 1) (-1) B) (bl a (D + 1) 0 U)
      refine gh_iload_n C dT_blankLeafAndPath_2 rfl ?_
      refine gh_aload_n C dT_blankLeafAndPath_3 rfl ?_
      refine gh_get C fT_27 hp1.1 rfl dT_blankLeafAndPath_4 ?_
      refine gh_icmp_gt C 25 dT_blankLeafAndPath_7 (by decide) (fun c7 => ?_) (fun c7 => ?_)
      ·
        refine gh_vret C hQ rfl dT_blankLeafAndPath_25 ?_
        exact ⟨rfl, rfl⟩
      · exact absurd (nI_lt (Nat.lt_succ_self D) (by omega)) c7
    | succ c ih =>
      intro i hi
      have hi2 : i ≤ D := by omega
      have hp1 := tset_pT hp (bl a i (-1) K) (bl a i (-1) B) (bl a i 0 U)
      have hv := pn_w1 D hD i hi2 a ha
      refine gh_iload_n C dT_blankLeafAndPath_2 rfl ?_
      refine gh_aload_n C dT_blankLeafAndPath_3 rfl ?_
      refine gh_get C fT_27 hp1.1 rfl dT_blankLeafAndPath_4 ?_
      refine gh_icmp_gt C 25 dT_blankLeafAndPath_7 (by decide) (fun c7 => ?_) (fun c7 => ?_)
      · exact absurd c7 (nI_nlt hi2 (by omega))
      ·
        refine gh_aload_n C dT_blankLeafAndPath_10 rfl ?_
        refine gh_iload_n C dT_blankLeafAndPath_11 rfl ?_
        refine gh_iload_n C dT_blankLeafAndPath_12 rfl ?_
        refine gh_callS C [.int (nI a), .int (nI i)] (c_pathNode l d _ a i (by omega) (by omega)) lT_43 wG_pathNode sG_pathNode rfl rfl (Nat.le_of_ble_eq_true rfl) ⟨Nat.le_of_ble_eq_true rfl, Nat.le_of_ble_eq_true rfl⟩ (Nat.le_of_ble_eq_true rfl) (Nat.le_of_ble_eq_true rfl) dT_blankLeafAndPath_13 (fun v13 g13 h13 => ?_)
        obtain ⟨rfl, rfl⟩ := h13
        refine gh_callV C [.int (nI (pn a i))] (c_blank l d _ hp1 (nI (pn a i))) lT_47 wT_blank vT_blank hp1.1 rfl rfl rfl (Nat.le_of_ble_eq_true rfl) ⟨Nat.le_of_ble_eq_true rfl, Nat.le_of_ble_eq_true rfl⟩ (Nat.le_of_ble_eq_true rfl) (Nat.le_of_ble_eq_true rfl) dT_blankLeafAndPath_16 (fun v16 g16 h16x => ?_)
        obtain ⟨rfl, rfl⟩ := h16x
        rw [tput_n hD hv, tput_n hD hv, tput_n hD hv, bl_s, bl_s, bl_s, tset_tset]
        refine gh_iinc C (nI (i + 1)) [some (.ref t), some (.int (nI a)), some (.int (nI (i + 1)))] dT_blankLeafAndPath_19 rfl (gh_inc i) rfl ?_
        refine gh_goto C 2 dT_blankLeafAndPath_22 (by decide) ?_
        exact ih (i + 1) (by omega)
  refine gh_iconst C 0 dT_blankLeafAndPath_0 (by decide) ?_
  refine gh_istore_n C [some (.ref t), some (.int (nI a)), some (.int 0)] dT_blankLeafAndPath_1 rfl (by simp) ?_
  have h := loop (D + 1) 0 (by omega)
  rw [bl_0, bl_0, bl_0, tset_self hp] at h
  exact h
def mk1 (a : Nat) (K U : Nat → Int32) (i : Nat) : Nat → Int32 := fun v => if (List.range i).any (fun h => pn a (h + 1) == v) = true ∧ K v ≠ -1 then U v ||| ((1 : Int32) <<< (nI a &&& 31)) else U v
theorem mk1_0 (a : Nat) (K U : Nat → Int32) : mk1 a K U 0 = U := by funext v; simp [mk1]
theorem pn_inj : ∀ a, a < 16 → ∀ h, h ≤ 4 → ∀ k, k ≤ 4 → pn a h = pn a k → h = k := by decide +kernel
theorem mk1_s1 {a i : Nat} (K U : Nat → Int32) (ha : a < 16) (hi : i < 4) (hK : K (pn a (i + 1)) ≠ -1) : upd (mk1 a K U i) (pn a (i + 1)) (mk1 a K U i (pn a (i + 1)) ||| ((1 : Int32) <<< (nI a &&& 31))) = mk1 a K U (i + 1) := by
  have hn : ¬ (List.range i).any (fun h => pn a (h + 1) == pn a (i + 1)) = true := by
    intro h
    obtain ⟨j, hj, he⟩ := List.any_eq_true.mp h
    rw [List.mem_range] at hj
    have := pn_inj a ha (j + 1) (by omega) (i + 1) (by omega) (by simpa using he)
    omega
  funext v
  simp only [upd, mk1, List.range_succ, List.any_append, List.any_cons, List.any_nil, Bool.or_false]
  by_cases h : v = pn a (i + 1)
  · subst h; simp [hK, hn]
  · have h2 : ¬ pn a (i + 1) = v := fun q => h q.symm
    simp [h, h2]
theorem mk1_s0 {a i : Nat} (K U : Nat → Int32) (hK : K (pn a (i + 1)) = -1) : mk1 a K U i = mk1 a K U (i + 1) := by
  funext v
  simp only [mk1, List.range_succ, List.any_append, List.any_cons, List.any_nil, Bool.or_false]
  by_cases h : v = pn a (i + 1)
  · subst h; simp [hK]
  · have h2 : ¬ pn a (i + 1) = v := fun q => h q.symm
    simp [h2]
theorem tset_u {g : gh_H} {e ka ba ua : Nat} {K B U U1 : Nat → Int32} : gh_u (tset g e ka ba ua K B U) (16, e) (ua, .inl (0, 31, .inl U1)) = tset g e ka ba ua K B U1 := by unfold tset; rw [gh_uu]
set_option maxRecDepth 100000 in
set_option maxHeartbeats 4000000 in
theorem c_mark (l : Launch) (d : gh_D) (g : gh_H) {e D t ka ba ua : Nat} {K B U : Nat → Int32} (hp : pT g e D t ka ba ua K B U) (a : Nat) (ha : a < 2 ^ D) : gh_C l d mT_markUnmerged (rr 2 0 0) [.ref t, .int (nI a)] g (fun v g1 => v = none ∧ g1 = tset g e ka ba ua K B (mk1 a K U D)) := by
  refine gh_of [some (.ref t), some (.int (nI a)), none, none] (by decide) rfl (Nat.le_of_ble_eq_true rfl) (by simp [Value.category]) (fun z C hQ => ?_)
  show gh_W l d z 0 [some (.ref t), some (.int (nI a)), none, none] [] g 0 0
  have hD := hp.2.2.2.2
  have h16 := pow_le D hD
  have h31 := tW_le hD
  have loop : ∀ (c i : Nat) (y : Option Value), i + c = D → gh_W l d z 2 [some (.ref t), some (.int (nI a)), some (.int (nI (i + 1))), y] [] (tset g e ka ba ua K B (mk1 a K U i)) 0 0 := by
    intro c
    induction c with
    | zero =>
      intro i y hi
      have hi : i = D := by omega
      subst hi
      have hp1 := tset_pT hp K B (mk1 a K U i)
      refine gh_iload_n C dT_markUnmerged_2 rfl ?_
      refine gh_aload_n C dT_markUnmerged_3 rfl ?_
      refine gh_get C fT_27 hp1.1 rfl dT_markUnmerged_4 ?_
      refine gh_icmp_gt C 44 dT_markUnmerged_7 (by decide) (fun c7 => ?_) (fun c7 => ?_)
      ·
        refine gh_vret C hQ rfl dT_markUnmerged_44 ?_
        exact ⟨rfl, rfl⟩
      · exact absurd (nI_lt (Nat.lt_succ_self i) (by omega)) c7
    | succ c ih =>
      intro i y hi
      have hi2 : i + 1 ≤ D := by omega
      have hp1 := tset_pT hp K B (mk1 a K U i)
      have hv := pn_w1 D hD (i + 1) hi2 a ha
      refine gh_iload_n C dT_markUnmerged_2 rfl ?_
      refine gh_aload_n C dT_markUnmerged_3 rfl ?_
      refine gh_get C fT_27 hp1.1 rfl dT_markUnmerged_4 ?_
      refine gh_icmp_gt C 44 dT_markUnmerged_7 (by decide) (fun c7 => ?_) (fun c7 => ?_)
      · exact absurd c7 (nI_nlt hi2 (by omega))
      ·
        refine gh_iload_n C dT_markUnmerged_10 rfl ?_
        refine gh_iload_n C dT_markUnmerged_11 rfl ?_
        refine gh_callS C [.int (nI a), .int (nI (i + 1))] (c_pathNode l d _ a (i + 1) (by omega) (by omega)) lT_43 wG_pathNode sG_pathNode rfl rfl (Nat.le_of_ble_eq_true rfl) ⟨Nat.le_of_ble_eq_true rfl, Nat.le_of_ble_eq_true rfl⟩ (Nat.le_of_ble_eq_true rfl) (Nat.le_of_ble_eq_true rfl) dT_markUnmerged_12 (fun v12 g12 h12 => ?_)
        obtain ⟨rfl, rfl⟩ := h12
        refine gh_istore_n C [some (.ref t), some (.int (nI a)), some (.int (nI (i + 1))), some (.int (nI (pn a (i + 1))))] dT_markUnmerged_15 rfl (by simp) ?_
        refine gh_aload_n C dT_markUnmerged_16 rfl ?_
        refine gh_iload_n C dT_markUnmerged_17 rfl ?_
        refine gh_callV C [.int (nI (pn a (i + 1)))] (c_keyOf l d _ hp1 (nI (pn a (i + 1)))) lT_51 wT_keyOf vT_keyOf hp1.1 rfl rfl rfl (Nat.le_of_ble_eq_true rfl) ⟨Nat.le_of_ble_eq_true rfl, Nat.le_of_ble_eq_true rfl⟩ (Nat.le_of_ble_eq_true rfl) (Nat.le_of_ble_eq_true rfl) dT_markUnmerged_18 (fun v18 g18 h18 => ?_)
        obtain ⟨rfl, rfl⟩ := h18
        rw [tkey_n hD hv]
        refine gh_iconst C (-1) dT_markUnmerged_21 (by decide) ?_
        refine gh_icmp_eq C 38 dT_markUnmerged_22 (by decide) (fun c22 => ?_) (fun c22 => ?_)
        · refine gh_iinc C (nI (i + 1 + 1)) [some (.ref t), some (.int (nI a)), some (.int (nI (i + 1 + 1))), some (.int (nI (pn a (i + 1))))] dT_markUnmerged_38 rfl (gh_inc (i + 1)) rfl ?_
          refine gh_goto C 2 dT_markUnmerged_41 (by decide) ?_
          rw [mk1_s0 K U c22]
          exact ih (i + 1) _ (by omega)
        ·
          refine gh_aload_n C dT_markUnmerged_25 rfl ?_
          refine gh_get C fT_18 hp1.1 rfl dT_markUnmerged_26 ?_
          refine gh_iload_n C dT_markUnmerged_29 rfl ?_
          refine gh_dup2 C dT_markUnmerged_30 rfl rfl ?_
          refine gh_ialdN C (pn a (i + 1)) hp1.2.2.2.1 rfl rfl ⟨by omega, by decide⟩ dT_markUnmerged_31 ?_
          refine gh_iload_n C dT_markUnmerged_32 rfl ?_
          refine gh_callS C [.int (nI a)] (c_bit l d _ (nI a)) lT_55 wG_bit sG_bit rfl rfl (Nat.le_of_ble_eq_true rfl) ⟨Nat.le_of_ble_eq_true rfl, Nat.le_of_ble_eq_true rfl⟩ (Nat.le_of_ble_eq_true rfl) (Nat.le_of_ble_eq_true rfl) dT_markUnmerged_33 (fun v33 g33 h33 => ?_)
          obtain ⟨rfl, rfl⟩ := h33
          refine gh_ior C dT_markUnmerged_36 ?_
          refine gh_iastN C (pn a (i + 1)) hp1.2.2.2.1 rfl rfl ⟨by omega, by decide⟩ dT_markUnmerged_37 ?_
          refine gh_iinc C (nI (i + 1 + 1)) [some (.ref t), some (.int (nI a)), some (.int (nI (i + 1 + 1))), some (.int (nI (pn a (i + 1))))] dT_markUnmerged_38 rfl (gh_inc (i + 1)) rfl ?_
          refine gh_goto C 2 dT_markUnmerged_41 (by decide) ?_
          rw [tset_u, mk1_s1 K U (by omega) (by omega) c22]
          exact ih (i + 1) _ (by omega)
  refine gh_iconst C 1 dT_markUnmerged_0 (by decide) ?_
  refine gh_istore_n C [some (.ref t), some (.int (nI a)), some (.int 1), none] dT_markUnmerged_1 rfl (by simp) ?_
  have h := loop D 0 none (by omega)
  rw [mk1_0, tset_self hp] at h
  exact h
theorem sh1 : ∀ D, D ≤ 4 → ((1 : Int32) <<< (nI D &&& 31)) = nI (2 ^ D) := by decide +kernel
theorem leaf_w : ∀ D, D ≤ 4 → ∀ i, i < 2 ^ D → 2 * i < tW D := by decide +kernel
theorem two_n (i : Nat) : (2 : Int32) * nI i = nI (2 * i) := by rw [show (2 : Int32) = nI 2 from rfl, pk_mul]
set_option maxRecDepth 100000 in
set_option maxHeartbeats 4000000 in
theorem c_firstLeaf (l : Launch) (d : gh_D) (g : gh_H) {e D t ka ba ua : Nat} {K B U : Nat → Int32} (hp : pT g e D t ka ba ua K B U) (s : Nat) (hs : s ≤ 2 ^ D) : gh_C l d mT_firstLeafWithKey (rr 2 0 0) [.ref t, .int (nI s)] g (fun v g1 => (∃ x : Int32, v = some (.int x) ∧ (x = -1 ↔ ∀ i, s ≤ i → i < 2 ^ D → K (2 * i) = -1)) ∧ g1 = g) := by
  refine gh_of [some (.ref t), some (.int (nI s)), none] (by decide) rfl (Nat.le_of_ble_eq_true rfl) (by simp [Value.category]) (fun z C hQ => ?_)
  show gh_W l d z 0 [some (.ref t), some (.int (nI s)), none] [] g 0 0
  have hD := hp.2.2.2.2
  have h16 := pow_le D hD
  have loop : ∀ (c i : Nat), i + c = 2 ^ D → s ≤ i → (∀ j, s ≤ j → j < i → K (2 * j) = -1) → gh_W l d z 2 [some (.ref t), some (.int (nI s)), some (.int (nI i))] [] g 0 0 := by
    intro c
    induction c with
    | zero =>
      intro i hi hsi hb
      have hi : i = 2 ^ D := by omega
      refine gh_iload_n C dT_firstLeafWithKey_2 rfl ?_
      refine gh_iconst C 1 dT_firstLeafWithKey_3 (by decide) ?_
      refine gh_aload_n C dT_firstLeafWithKey_4 rfl ?_
      refine gh_get C fT_27 hp.1 rfl dT_firstLeafWithKey_5 ?_
      refine gh_ishl C dT_firstLeafWithKey_8 ?_
      refine gh_ti (nI (2 ^ D)) (sh1 D hD) ?_
      refine gh_icmp_ge C 32 dT_firstLeafWithKey_9 (by decide) (fun c9 => ?_) (fun c9 => ?_)
      ·
        refine gh_iconst C (-1) dT_firstLeafWithKey_32 (by decide) ?_
        refine gh_iret C hQ rfl dT_firstLeafWithKey_33 ?_
        exact ⟨⟨-1, rfl, ⟨fun _ j h1 h2 => hb j h1 (by omega), fun _ => rfl⟩⟩, rfl⟩
      · exact absurd (nI_le (Nat.le_of_eq hi.symm) (by omega)) c9
    | succ c ih =>
      intro i hi hsi hb
      have hlt : i < 2 ^ D := by omega
      have hv := leaf_w D hD i hlt
      refine gh_iload_n C dT_firstLeafWithKey_2 rfl ?_
      refine gh_iconst C 1 dT_firstLeafWithKey_3 (by decide) ?_
      refine gh_aload_n C dT_firstLeafWithKey_4 rfl ?_
      refine gh_get C fT_27 hp.1 rfl dT_firstLeafWithKey_5 ?_
      refine gh_ishl C dT_firstLeafWithKey_8 ?_
      refine gh_ti (nI (2 ^ D)) (sh1 D hD) ?_
      refine gh_icmp_ge C 32 dT_firstLeafWithKey_9 (by decide) (fun c9 => ?_) (fun c9 => ?_)
      · exact absurd c9 (nI_ge hlt (by omega))
      ·
        refine gh_aload_n C dT_firstLeafWithKey_12 rfl ?_
        refine gh_iload_n C dT_firstLeafWithKey_13 rfl ?_
        refine gh_callS C [.int (nI i)] (c_leafNode l d _ (nI i)) lT_61 wG_leafNode sG_leafNode rfl rfl (Nat.le_of_ble_eq_true rfl) ⟨Nat.le_of_ble_eq_true rfl, Nat.le_of_ble_eq_true rfl⟩ (Nat.le_of_ble_eq_true rfl) (Nat.le_of_ble_eq_true rfl) dT_firstLeafWithKey_14 (fun v14 g14 h14 => ?_)
        obtain ⟨rfl, rfl⟩ := h14
        rw [two_n i]
        refine gh_callV C [.int (nI (2 * i))] (c_keyOf l d _ hp (nI (2 * i))) lT_51 wT_keyOf vT_keyOf hp.1 rfl rfl rfl (Nat.le_of_ble_eq_true rfl) ⟨Nat.le_of_ble_eq_true rfl, Nat.le_of_ble_eq_true rfl⟩ (Nat.le_of_ble_eq_true rfl) (Nat.le_of_ble_eq_true rfl) dT_firstLeafWithKey_17 (fun v17 g17 h17 => ?_)
        obtain ⟨rfl, rfl⟩ := h17
        rw [tkey_n hD hv]
        refine gh_iconst C (-1) dT_firstLeafWithKey_20 (by decide) ?_
        refine gh_icmp_eq C 26 dT_firstLeafWithKey_21 (by decide) (fun c21 => ?_) (fun c21 => ?_)
        ·
          refine gh_iinc C (nI (i + 1)) [some (.ref t), some (.int (nI s)), some (.int (nI (i + 1)))] dT_firstLeafWithKey_26 rfl (gh_inc i) rfl ?_
          refine gh_goto C 2 dT_firstLeafWithKey_29 (by decide) ?_
          exact ih (i + 1) (by omega) (by omega) (fun j h1 h2 => by
            by_cases h : j = i
            · subst h; exact c21
            · exact hb j h1 (by omega))
        ·
          refine gh_iload_n C dT_firstLeafWithKey_24 rfl ?_
          refine gh_iret C hQ rfl dT_firstLeafWithKey_25 ?_
          refine ⟨⟨nI i, rfl, ⟨fun h => absurd h ?_, fun h => absurd (h i hsi hlt) c21⟩⟩, rfl⟩
          intro h
          have := nI_pos (n := i) (by omega)
          rw [h] at this
          exact this (by decide)
  refine gh_iload_n C dT_firstLeafWithKey_0 rfl ?_
  refine gh_istore_n C [some (.ref t), some (.int (nI s)), some (.int (nI s))] dT_firstLeafWithKey_1 rfl (by simp) ?_
  exact loop (2 ^ D - s) s (by omega) (Nat.le_refl s) (fun j h1 h2 => by omega)
/-- the lowest blank leaf, or the number of leaves -/
def fbl (D : Nat) (K : Nat → Int32) : Nat := ((List.range (2 ^ D)).find? (fun i => K (2 * i) == -1)).getD (2 ^ D)
theorem fbl_at {D i : Nat} {K : Nat → Int32} (hi : i < 2 ^ D) (hb : K (2 * i) = -1) (hl : ∀ j, j < i → K (2 * j) ≠ -1) : fbl D K = i := by
  unfold fbl
  have h : (List.range (2 ^ D)).find? (fun i => K (2 * i) == -1) = some i := by
    rw [List.find?_range_eq_some]
    refine ⟨by simp [hb], by simpa using hi, fun j hj => by simp [hl j hj]⟩
  rw [h]; rfl
theorem fbl_no {D : Nat} {K : Nat → Int32} (hl : ∀ j, j < 2 ^ D → K (2 * j) ≠ -1) : fbl D K = 2 ^ D := by
  unfold fbl
  have h : (List.range (2 ^ D)).find? (fun i => K (2 * i) == -1) = none := by
    rw [List.find?_eq_none]
    intro j hj
    rw [List.mem_range] at hj
    simp [hl j hj]
  rw [h]; rfl
set_option maxRecDepth 100000 in
set_option maxHeartbeats 4000000 in
theorem c_makeRoom (l : Launch) (d : gh_D) (g : gh_H) {e D t ka ba ua : Nat} {K B U : Nat → Int32} (hp : pT g e D t ka ba ua K B U) : gh_C l d mT_makeRoom (rr 2 0 0) [.ref t] g (fun v g1 => (fbl D K < 2 ^ D ∧ v = some (.int (nI (fbl D K))) ∧ g1 = g) ∨ (fbl D K = 2 ^ D ∧ D = 4 ∧ v = some (.int (-1)) ∧ g1 = g) ∨ (fbl D K = 2 ^ D ∧ D < 4 ∧ v = some (.int (nI (2 ^ D))) ∧ g1 = gh_u g (13, e) (t, .inr (4, [.int (nI (D + 1)), .ref ka, .ref ba, .ref ua])))) := by
  refine gh_of [some (.ref t), none] (by decide) rfl (Nat.le_of_ble_eq_true rfl) (by simp [Value.category]) (fun z C hQ => ?_)
  show gh_W l d z 0 [some (.ref t), none] [] g 0 0
  have hD := hp.2.2.2.2
  have h16 := pow_le D hD
  have loop : ∀ (c i : Nat), i + c = 2 ^ D → (∀ j, j < i → K (2 * j) ≠ -1) → gh_W l d z 2 [some (.ref t), some (.int (nI i))] [] g 0 0 := by
    intro c
    induction c with
    | zero =>
      intro i hi hb
      have hi : i = 2 ^ D := by omega
      subst hi
      have hf := fbl_no hb
      refine gh_iload_n C dT_makeRoom_2 rfl ?_
      refine gh_iconst C 1 dT_makeRoom_3 (by decide) ?_
      refine gh_aload_n C dT_makeRoom_4 rfl ?_
      refine gh_get C fT_27 hp.1 rfl dT_makeRoom_5 ?_
      refine gh_ishl C dT_makeRoom_8 ?_
      refine gh_ti (nI (2 ^ D)) (sh1 D hD) ?_
      refine gh_icmp_ge C 32 dT_makeRoom_9 (by decide) (fun c9 => ?_) (fun c9 => ?_)
      ·
        refine gh_aload_n C dT_makeRoom_32 rfl ?_
        refine gh_get C fT_27 hp.1 rfl dT_makeRoom_33 ?_
        refine gh_iconst C 4 dT_makeRoom_36 (by decide) ?_
        refine gh_icmp_lt C 42 dT_makeRoom_37 (by decide) (fun c37 => ?_) (fun c37 => ?_)
        ·
          have hD4 : D < 4 := (nI_ltI (a := D) (b := 4) (by omega) (by decide)).mp c37
          refine gh_aload_n C dT_makeRoom_42 rfl ?_
          refine gh_dup C dT_makeRoom_43 rfl ?_
          refine gh_get C fT_27 hp.1 rfl dT_makeRoom_44 ?_
          refine gh_iconst C 1 dT_makeRoom_47 (by decide) ?_
          refine gh_iadd C dT_makeRoom_48 ?_
          refine gh_ti (nI (D + 1)) (nI_1 D) ?_
          refine gh_putL C [.int (nI (D + 1)), .ref ka, .ref ba, .ref ua] pT_27 (by decide) hp.1 rfl (by simp) rfl rfl dT_makeRoom_49 ?_
          refine gh_iconst C 1 dT_makeRoom_52 (by decide) ?_
          refine gh_aload_n C dT_makeRoom_53 rfl ?_
          refine gh_get C fT_27 gh_us rfl dT_makeRoom_54 ?_
          refine gh_iconst C 1 dT_makeRoom_57 (by decide) ?_
          refine gh_isub C dT_makeRoom_58 ?_
          refine gh_ti (nI D) (nI_pred D) ?_
          refine gh_ishl C dT_makeRoom_59 ?_
          refine gh_ti (nI (2 ^ D)) (sh1 D hD) ?_
          refine gh_iret C hQ rfl dT_makeRoom_60 ?_
          first | exact Or.inr (Or.inl ⟨hf, hD4, rfl, rfl⟩) | exact Or.inr (Or.inr ⟨hf, hD4, rfl, rfl⟩)
        ·
          have hD4 : D = 4 := by
            rcases Nat.lt_or_ge D 4 with h | h
            · exact absurd (show nI D < nI 4 from nI_lt h (by decide)) c37
            · omega
          refine gh_iconst C (-1) dT_makeRoom_40 (by decide) ?_
          refine gh_iret C hQ rfl dT_makeRoom_41 ?_
          first | exact Or.inr (Or.inl ⟨hf, hD4, rfl, rfl⟩) | exact Or.inr (Or.inr ⟨hf, hD4, rfl, rfl⟩)
      · exact absurd (nI_le (Nat.le_refl (2 ^ D)) (by omega)) c9
    | succ c ih =>
      intro i hi hb
      have hlt : i < 2 ^ D := by omega
      have hv := leaf_w D hD i hlt
      refine gh_iload_n C dT_makeRoom_2 rfl ?_
      refine gh_iconst C 1 dT_makeRoom_3 (by decide) ?_
      refine gh_aload_n C dT_makeRoom_4 rfl ?_
      refine gh_get C fT_27 hp.1 rfl dT_makeRoom_5 ?_
      refine gh_ishl C dT_makeRoom_8 ?_
      refine gh_ti (nI (2 ^ D)) (sh1 D hD) ?_
      refine gh_icmp_ge C 32 dT_makeRoom_9 (by decide) (fun c9 => ?_) (fun c9 => ?_)
      · exact absurd c9 (nI_ge hlt (by omega))
      ·
        refine gh_aload_n C dT_makeRoom_12 rfl ?_
        refine gh_iload_n C dT_makeRoom_13 rfl ?_
        refine gh_callS C [.int (nI i)] (c_leafNode l d _ (nI i)) lT_61 wG_leafNode sG_leafNode rfl rfl (Nat.le_of_ble_eq_true rfl) ⟨Nat.le_of_ble_eq_true rfl, Nat.le_of_ble_eq_true rfl⟩ (Nat.le_of_ble_eq_true rfl) (Nat.le_of_ble_eq_true rfl) dT_makeRoom_14 (fun v14 g14 h14 => ?_)
        obtain ⟨rfl, rfl⟩ := h14
        rw [two_n i]
        refine gh_callV C [.int (nI (2 * i))] (c_keyOf l d _ hp (nI (2 * i))) lT_51 wT_keyOf vT_keyOf hp.1 rfl rfl rfl (Nat.le_of_ble_eq_true rfl) ⟨Nat.le_of_ble_eq_true rfl, Nat.le_of_ble_eq_true rfl⟩ (Nat.le_of_ble_eq_true rfl) (Nat.le_of_ble_eq_true rfl) dT_makeRoom_17 (fun v17 g17 h17 => ?_)
        obtain ⟨rfl, rfl⟩ := h17
        rw [tkey_n hD hv]
        refine gh_iconst C (-1) dT_makeRoom_20 (by decide) ?_
        refine gh_icmp_ne C 26 dT_makeRoom_21 (by decide) (fun c21 => ?_) (fun c21 => ?_)
        ·
          refine gh_iinc C (nI (i + 1)) [some (.ref t), some (.int (nI (i + 1)))] dT_makeRoom_26 rfl (gh_inc i) rfl ?_
          refine gh_goto C 2 dT_makeRoom_29 (by decide) ?_
          exact ih (i + 1) (by omega) (fun j h2 => by
            by_cases h : j = i
            · subst h; exact c21
            · exact hb j (by omega))
        ·
          refine gh_iload_n C dT_makeRoom_24 rfl ?_
          refine gh_iret C hQ rfl dT_makeRoom_25 ?_
          have hf := fbl_at hlt c21 hb
          exact Or.inl ⟨by rw [hf]; exact hlt, by rw [hf], rfl⟩
  refine gh_iconst C 0 dT_makeRoom_0 (by decide) ?_
  refine gh_istore_n C [some (.ref t), some (.int 0)] dT_makeRoom_1 rfl (by simp) ?_
  exact loop (2 ^ D) 0 (by omega) (fun j h2 => by omega)
end
section
/-! leafNodes, resolutions, the lowest node that counts, shrinking -/
def bitN (v : Nat) : Int32 := (1 : Int32) <<< (nI v &&& 31)
def lns (x : Int32) : Nat → Int32
  | 0 => 0
  | i + 1 => if x &&& bitN i = 0 then lns x i else lns x i ||| bitN (2 * i)
set_option maxRecDepth 100000 in
set_option maxHeartbeats 4000000 in
theorem c_leafNodes (l : Launch) (d : gh_D) (g : gh_H) (x : Int32) : gh_C l d mG_leafNodes (rr 1 0 0) [.int x] g (fun v g1 => v = some (.int (lns x 16)) ∧ g1 = g) := by
  refine gh_of [some (.int x), none, none] (by decide) rfl (Nat.le_of_ble_eq_true rfl) (by simp [Value.category]) (fun z C hQ => ?_)
  show gh_W l d z 0 [some (.int x), none, none] [] g 0 0
  have loop : ∀ (c i : Nat), i + c = 16 → gh_W l d z 4 [some (.int x), some (.int (lns x i)), some (.int (nI i))] [] g 0 0 := by
    intro c
    induction c with
    | zero =>
      intro i hi
      have hi : i = 16 := by omega
      subst hi
      refine gh_iload_n C dG_leafNodes_4 rfl ?_
      refine gh_bipush C 16 dG_leafNodes_5 (by decide) ?_
      refine gh_icmp_ge C 35 dG_leafNodes_7 (by decide) (fun c7 => ?_) (fun c7 => ?_)
      ·
        refine gh_iload_n C dG_leafNodes_35 rfl ?_
        refine gh_iret C hQ rfl dG_leafNodes_36 ?_
        exact ⟨rfl, rfl⟩
      · exact absurd (show (16 : Int32) ≤ nI 16 from nI_le (Nat.le_refl 16) (by decide)) c7
    | succ c ih =>
      intro i hi
      refine gh_iload_n C dG_leafNodes_4 rfl ?_
      refine gh_bipush C 16 dG_leafNodes_5 (by decide) ?_
      refine gh_icmp_ge C 35 dG_leafNodes_7 (by decide) (fun c7 => ?_) (fun c7 => ?_)
      · exact absurd c7 (show ¬ nI 16 ≤ nI i from nI_ge (by omega) (by decide))
      ·
        refine gh_iload_n C dG_leafNodes_10 rfl ?_
        refine gh_iload_n C dG_leafNodes_11 rfl ?_
        refine gh_callS C [.int (nI i)] (c_bit l d _ (nI i)) lG_239 wG_bit sG_bit rfl rfl (Nat.le_of_ble_eq_true rfl) ⟨Nat.le_of_ble_eq_true rfl, Nat.le_of_ble_eq_true rfl⟩ (Nat.le_of_ble_eq_true rfl) (Nat.le_of_ble_eq_true rfl) dG_leafNodes_12 (fun v12 g12 h12 => ?_)
        obtain ⟨rfl, rfl⟩ := h12
        refine gh_iand C dG_leafNodes_15 ?_
        refine gh_if_eq C 29 dG_leafNodes_16 (by decide) (fun c16 => ?_) (fun c16 => ?_)
        · have e : lns x (i + 1) = lns x i := if_pos c16
          rw [← e]
          refine gh_iinc C (nI (i + 1)) [some (.int x), some (.int (lns x (i + 1))), some (.int (nI (i + 1)))] dG_leafNodes_29 rfl (gh_inc i) rfl ?_
          refine gh_goto C 4 dG_leafNodes_32 (by decide) ?_
          exact ih (i + 1) (by omega)
        ·
          refine gh_iload_n C dG_leafNodes_19 rfl ?_
          refine gh_iload_n C dG_leafNodes_20 rfl ?_
          refine gh_callS C [.int (nI i)] (c_leafNode l d _ (nI i)) lG_233 wG_leafNode sG_leafNode rfl rfl (Nat.le_of_ble_eq_true rfl) ⟨Nat.le_of_ble_eq_true rfl, Nat.le_of_ble_eq_true rfl⟩ (Nat.le_of_ble_eq_true rfl) (Nat.le_of_ble_eq_true rfl) dG_leafNodes_21 (fun v21 g21 h21 => ?_)
          obtain ⟨rfl, rfl⟩ := h21
          rw [two_n i]
          refine gh_callS C [.int (nI (2 * i))] (c_bit l d _ (nI (2 * i))) lG_239 wG_bit sG_bit rfl rfl (Nat.le_of_ble_eq_true rfl) ⟨Nat.le_of_ble_eq_true rfl, Nat.le_of_ble_eq_true rfl⟩ (Nat.le_of_ble_eq_true rfl) (Nat.le_of_ble_eq_true rfl) dG_leafNodes_24 (fun v24 g24 h24 => ?_)
          obtain ⟨rfl, rfl⟩ := h24
          refine gh_ior C dG_leafNodes_27 ?_
          refine gh_istore_n C [some (.int x), some (.int ((lns x i) ||| (bitN (2 * i)))), some (.int (nI i))] dG_leafNodes_28 rfl (by simp) ?_
          have e : lns x (i + 1) = lns x i ||| bitN (2 * i) := if_neg c16
          rw [← e]
          refine gh_iinc C (nI (i + 1)) [some (.int x), some (.int (lns x (i + 1))), some (.int (nI (i + 1)))] dG_leafNodes_29 rfl (gh_inc i) rfl ?_
          refine gh_goto C 4 dG_leafNodes_32 (by decide) ?_
          exact ih (i + 1) (by omega)
  refine gh_iconst C 0 dG_leafNodes_0 (by decide) ?_
  refine gh_istore_n C [some (.int x), some (.int 0), none] dG_leafNodes_1 rfl (by simp) ?_
  refine gh_iconst C 0 dG_leafNodes_2 (by decide) ?_
  refine gh_istore_n C [some (.int x), some (.int 0), some (.int 0)] dG_leafNodes_3 rfl (by simp) ?_
  exact loop 16 0 (by omega)
def res (D : Nat) (K U : Nat → Int32) : Nat → Nat → Int32
  | 0, v => if v < tW D then (if K v = -1 then 0 else bitN v ||| lns (U v) 16) else 0
  | h + 1, v => if v < tW D then (if K v = -1 then res D K U h (v - 2 ^ h) ||| res D K U h (v + 2 ^ h) else bitN v ||| lns (U v) 16) else 0
theorem sh1h : ∀ h, h ≤ 4 → ((1 : Int32) <<< (nI h &&& 31)) = nI (2 ^ h) := by decide +kernel
theorem p2pos (h : Nat) : 1 ≤ 2 ^ h := Nat.one_le_two_pow
set_option maxRecDepth 100000 in
set_option maxHeartbeats 4000000 in
theorem c_res (l : Launch) (d : gh_D) (g : gh_H) {e D t ka ba ua : Nat} {K B U : Nat → Int32} (hp : pT g e D t ka ba ua K B U) : ∀ (h v : Nat), h ≤ 4 → 2 ^ h ≤ v + 1 → v + 2 ^ h < 1000 → gh_C l d mT_resolution (rr (h + 3) 0 0) [.ref t, .int (nI v), .int (nI h)] g (fun v1 g1 => v1 = some (.int (res D K U h v)) ∧ g1 = g) := by
  have hD := hp.2.2.2.2
  have h31 := tW_le hD
  intro h
  induction h with
  | zero =>
    intro v _ _ hv
    have hv : v < 1000 := by omega
    refine gh_of [some (.ref t), some (.int (nI v)), some (.int (nI 0)), none] (by decide) rfl (Nat.le_of_ble_eq_true rfl) (by simp [Value.category]) (fun z C hQ => ?_)
    show gh_W l d z 0 [some (.ref t), some (.int (nI v)), some (.int (nI 0)), none] [] g 0 0
    refine gh_aload_n C dT_resolution_0 rfl ?_
    refine gh_iload_n C dT_resolution_1 rfl ?_
    refine gh_callV C [.int (nI v)] (c_isThere l d _ hp (nI v)) lT_35 wT_isThere vT_isThere hp.1 rfl rfl rfl (Nat.le_of_ble_eq_true rfl) ⟨Nat.le_of_ble_eq_true rfl, Nat.le_of_ble_eq_true rfl⟩ (Nat.le_of_ble_eq_true rfl) (Nat.le_of_ble_eq_true rfl) dT_resolution_2 (fun v2 g2 h2 => ?_)
    obtain ⟨rfl, rfl⟩ := h2
    refine gh_if_ne C 10 dT_resolution_5 (by decide) (fun c5 => ?_) (fun c5 => ?_)
    ·
      have hx : thr D (nI v) = true := by
        by_cases h : thr D (nI v) = true
        · exact h
        · rw [if_neg h] at c5; exact absurd rfl c5
      have hv2 : v < tW D := by rw [thr_n hD (by omega)] at hx; simpa using hx
      refine gh_aload_n C dT_resolution_10 rfl ?_
      refine gh_get C fT_9 hp.1 rfl dT_resolution_11 ?_
      refine gh_iload_n C dT_resolution_14 rfl ?_
      refine gh_ialdN C (v) hp.2.1 rfl rfl ⟨by omega, by decide⟩ dT_resolution_15 ?_
      refine gh_iconst C (-1) dT_resolution_16 (by decide) ?_
      refine gh_icmp_eq C 35 dT_resolution_17 (by decide) (fun c17 => ?_) (fun c17 => ?_)
      ·
        refine gh_iload_n C dT_resolution_35 rfl ?_
        refine gh_if_gt C 41 dT_resolution_36 (by decide) (fun c36 => ?_) (fun c36 => ?_)
        · exact absurd c36 (by decide)
        ·
          refine gh_iconst C 0 dT_resolution_39 (by decide) ?_
          refine gh_iret C hQ rfl dT_resolution_40 ?_
          exact ⟨by first | (simp only [res, if_pos hv2, if_neg c17]; rfl) | (simp only [res, if_pos hv2, if_pos c17]), rfl⟩
      ·
        refine gh_iload_n C dT_resolution_20 rfl ?_
        refine gh_callS C [.int (nI v)] (c_bit l d _ (nI v)) lT_55 wG_bit sG_bit rfl rfl (Nat.le_of_ble_eq_true rfl) ⟨Nat.le_of_ble_eq_true rfl, Nat.le_of_ble_eq_true rfl⟩ (Nat.le_of_ble_eq_true rfl) (Nat.le_of_ble_eq_true rfl) dT_resolution_21 (fun v21 g21 h21 => ?_)
        obtain ⟨rfl, rfl⟩ := h21
        refine gh_aload_n C dT_resolution_24 rfl ?_
        refine gh_get C fT_18 hp.1 rfl dT_resolution_25 ?_
        refine gh_iload_n C dT_resolution_28 rfl ?_
        refine gh_ialdN C (v) hp.2.2.2.1 rfl rfl ⟨by omega, by decide⟩ dT_resolution_29 ?_
        refine gh_callS C [.int (U v)] (c_leafNodes l d _ (U v)) lT_64 wG_leafNodes sG_leafNodes rfl rfl (Nat.le_of_ble_eq_true rfl) ⟨by dsimp only [rr]; omega, by show 8 + (3 + 11) + 40 * 1 ≤ 40 * _; omega⟩ (Nat.le_of_ble_eq_true rfl) (Nat.le_of_ble_eq_true rfl) dT_resolution_30 (fun v30 g30 h30 => ?_)
        obtain ⟨rfl, rfl⟩ := h30
        refine gh_ior C dT_resolution_33 ?_
        refine gh_iret C hQ rfl dT_resolution_34 ?_
        exact ⟨by first | (simp only [res, if_pos hv2, if_neg c17]; rfl) | (simp only [res, if_pos hv2, if_pos c17]), rfl⟩
    · have hx : ¬ thr D (nI v) = true := fun h => by rw [if_pos h] at c5; exact absurd c5 (by decide)
      have hv2 : ¬ v < tW D := fun h => hx (by rw [thr_n hD (by omega)]; simp [h])
      refine gh_iconst C 0 dT_resolution_8 (by decide) ?_
      refine gh_iret C hQ rfl dT_resolution_9 ?_
      exact ⟨by simp only [res, if_neg hv2], rfl⟩
  | succ h ih =>
    intro v hh hvl hvu
    have hp2 := p2pos h
    have hpow : 2 ^ (h + 1) = 2 * 2 ^ h := by rw [Nat.pow_succ]; omega
    refine gh_of [some (.ref t), some (.int (nI v)), some (.int (nI (h + 1))), none] (by decide) rfl (Nat.le_of_ble_eq_true rfl) (by simp [Value.category]) (fun z C hQ => ?_)
    show gh_W l d z 0 [some (.ref t), some (.int (nI v)), some (.int (nI (h + 1))), none] [] g 0 0
    refine gh_aload_n C dT_resolution_0 rfl ?_
    refine gh_iload_n C dT_resolution_1 rfl ?_
    refine gh_callV C [.int (nI v)] (c_isThere l d _ hp (nI v)) lT_35 wT_isThere vT_isThere hp.1 rfl rfl rfl (Nat.le_of_ble_eq_true rfl) ⟨Nat.le_of_ble_eq_true rfl, Nat.le_of_ble_eq_true rfl⟩ (Nat.le_of_ble_eq_true rfl) (Nat.le_of_ble_eq_true rfl) dT_resolution_2 (fun v2 g2 h2 => ?_)
    obtain ⟨rfl, rfl⟩ := h2
    refine gh_if_ne C 10 dT_resolution_5 (by decide) (fun c5 => ?_) (fun c5 => ?_)
    ·
      have hx : thr D (nI v) = true := by
        by_cases h : thr D (nI v) = true
        · exact h
        · rw [if_neg h] at c5; exact absurd rfl c5
      have hv2 : v < tW D := by rw [thr_n hD (by omega)] at hx; simpa using hx
      refine gh_aload_n C dT_resolution_10 rfl ?_
      refine gh_get C fT_9 hp.1 rfl dT_resolution_11 ?_
      refine gh_iload_n C dT_resolution_14 rfl ?_
      refine gh_ialdN C (v) hp.2.1 rfl rfl ⟨by omega, by decide⟩ dT_resolution_15 ?_
      refine gh_iconst C (-1) dT_resolution_16 (by decide) ?_
      refine gh_icmp_eq C 35 dT_resolution_17 (by decide) (fun c17 => ?_) (fun c17 => ?_)
      ·
        refine gh_iload_n C dT_resolution_35 rfl ?_
        refine gh_if_gt C 41 dT_resolution_36 (by decide) (fun c36 => ?_) (fun c36 => ?_)
        ·
          refine gh_iconst C 1 dT_resolution_41 (by decide) ?_
          refine gh_iload_n C dT_resolution_42 rfl ?_
          refine gh_iconst C 1 dT_resolution_43 (by decide) ?_
          refine gh_isub C dT_resolution_44 ?_
          refine gh_ti (nI h) (nI_pred h) ?_
          refine gh_ishl C dT_resolution_45 ?_
          refine gh_ti (nI (2 ^ h)) (sh1h h (by omega)) ?_
          refine gh_istore_n C [some (.ref t), some (.int (nI v)), some (.int (nI (h + 1))), some (.int (nI (2 ^ h)))] dT_resolution_46 rfl (by simp) ?_
          refine gh_aload_n C dT_resolution_47 rfl ?_
          refine gh_iload_n C dT_resolution_48 rfl ?_
          refine gh_iload_n C dT_resolution_49 rfl ?_
          refine gh_isub C dT_resolution_50 ?_
          refine gh_ti (nI (v - 2 ^ h)) (pk_sub (by omega)) ?_
          refine gh_iload_n C dT_resolution_51 rfl ?_
          refine gh_iconst C 1 dT_resolution_52 (by decide) ?_
          refine gh_isub C dT_resolution_53 ?_
          refine gh_ti (nI h) (nI_pred h) ?_
          refine gh_callV C [.int (nI (v - 2 ^ h)), .int (nI h)] (ih (v - 2 ^ h) (by omega) (by omega) (by omega)) lT_67 wT_resolution vT_resolution hp.1 rfl rfl rfl (Nat.le_of_ble_eq_true rfl) ⟨by dsimp only [rr]; omega, by show 8 + (4 + 11) + 40 * (h + 3) ≤ 40 * (h + 1 + 3); omega⟩ (Nat.le_of_ble_eq_true rfl) (Nat.le_of_ble_eq_true rfl) dT_resolution_54 (fun v54 g54 h54 => ?_)
          obtain ⟨rfl, rfl⟩ := h54
          refine gh_aload_n C dT_resolution_57 rfl ?_
          refine gh_iload_n C dT_resolution_58 rfl ?_
          refine gh_iload_n C dT_resolution_59 rfl ?_
          refine gh_iadd C dT_resolution_60 ?_
          refine gh_ti (nI (v + 2 ^ h)) (nI_add v (2 ^ h)) ?_
          refine gh_iload_n C dT_resolution_61 rfl ?_
          refine gh_iconst C 1 dT_resolution_62 (by decide) ?_
          refine gh_isub C dT_resolution_63 ?_
          refine gh_ti (nI h) (nI_pred h) ?_
          refine gh_callV C [.int (nI (v + 2 ^ h)), .int (nI h)] (ih (v + 2 ^ h) (by omega) (by omega) (by omega)) lT_67 wT_resolution vT_resolution hp.1 rfl rfl rfl (Nat.le_of_ble_eq_true rfl) ⟨by dsimp only [rr]; omega, by show 8 + (4 + 11) + 40 * (h + 3) ≤ 40 * (h + 1 + 3); omega⟩ (Nat.le_of_ble_eq_true rfl) (Nat.le_of_ble_eq_true rfl) dT_resolution_64 (fun v64 g64 h64 => ?_)
          obtain ⟨rfl, rfl⟩ := h64
          refine gh_ior C dT_resolution_67 ?_
          refine gh_iret C hQ rfl dT_resolution_68 ?_
          exact ⟨by first | (simp only [res, if_pos hv2, if_neg c17]; rfl) | (simp only [res, if_pos hv2, if_pos c17]), rfl⟩
        · exact absurd (show (0 : Int32) < nI (h + 1) from nI_lt (a := 0) (by omega) (by omega)) c36
      ·
        refine gh_iload_n C dT_resolution_20 rfl ?_
        refine gh_callS C [.int (nI v)] (c_bit l d _ (nI v)) lT_55 wG_bit sG_bit rfl rfl (Nat.le_of_ble_eq_true rfl) ⟨Nat.le_of_ble_eq_true rfl, Nat.le_of_ble_eq_true rfl⟩ (Nat.le_of_ble_eq_true rfl) (Nat.le_of_ble_eq_true rfl) dT_resolution_21 (fun v21 g21 h21 => ?_)
        obtain ⟨rfl, rfl⟩ := h21
        refine gh_aload_n C dT_resolution_24 rfl ?_
        refine gh_get C fT_18 hp.1 rfl dT_resolution_25 ?_
        refine gh_iload_n C dT_resolution_28 rfl ?_
        refine gh_ialdN C (v) hp.2.2.2.1 rfl rfl ⟨by omega, by decide⟩ dT_resolution_29 ?_
        refine gh_callS C [.int (U v)] (c_leafNodes l d _ (U v)) lT_64 wG_leafNodes sG_leafNodes rfl rfl (Nat.le_of_ble_eq_true rfl) ⟨by dsimp only [rr]; omega, by show 8 + (3 + 11) + 40 * 1 ≤ 40 * _; omega⟩ (Nat.le_of_ble_eq_true rfl) (Nat.le_of_ble_eq_true rfl) dT_resolution_30 (fun v30 g30 h30 => ?_)
        obtain ⟨rfl, rfl⟩ := h30
        refine gh_ior C dT_resolution_33 ?_
        refine gh_iret C hQ rfl dT_resolution_34 ?_
        exact ⟨by first | (simp only [res, if_pos hv2, if_neg c17]; rfl) | (simp only [res, if_pos hv2, if_pos c17]), rfl⟩
    · have hx : ¬ thr D (nI v) = true := fun h => by rw [if_pos h] at c5; exact absurd c5 (by decide)
      have hv2 : ¬ v < tW D := fun h => hx (by rw [thr_n hD (by omega)]; simp [h])
      refine gh_iconst C 0 dT_resolution_8 (by decide) ?_
      refine gh_iret C hQ rfl dT_resolution_9 ?_
      exact ⟨by simp only [res, if_neg hv2], rfl⟩
def lowc (D : Nat) (c : Int32) (a : Nat) : Option Nat := (List.range D).find? (fun h => decide (c &&& bitN (pn a (h + 1)) ≠ 0))
def lowh (D : Nat) (c : Int32) (a : Nat) : Int32 := match lowc D c a with
  | some h => nI (h + 1)
  | none => -1
theorem lowc_at {D i a : Nat} {c : Int32} (hi : i < D) (hb : ¬ c &&& bitN (pn a (i + 1)) = 0) (hl : ∀ j, j < i → c &&& bitN (pn a (j + 1)) = 0) : lowc D c a = some i := by
  unfold lowc
  rw [List.find?_range_eq_some]
  exact ⟨by simp [hb], by simpa using hi, fun j hj => by simp [hl j hj]⟩
theorem lowc_no {D a : Nat} {c : Int32} (hl : ∀ j, j < D → c &&& bitN (pn a (j + 1)) = 0) : lowc D c a = none := by
  unfold lowc
  rw [List.find?_eq_none]
  intro j hj
  rw [List.mem_range] at hj
  simp [hl j hj]
set_option maxRecDepth 100000 in
set_option maxHeartbeats 4000000 in
theorem c_lowest (l : Launch) (d : gh_D) (g : gh_H) {e D t ka ba ua : Nat} {K B U : Nat → Int32} (hp : pT g e D t ka ba ua K B U) {x : Nat} {i1 i2 i3 cn i5 i6 i7 i8 : Int32} (he : g (12, e) = some (x, .inr (3, [.int i1, .ref t, .int i2, .int i3, .int cn, .int i5, .int i6, .int i7, .int i8]))) (a : Nat) (ha : a < 2 ^ D) : gh_C l d mE_lowestCounting (rr 1 0 0) [.ref x, .int (nI a)] g (fun v g1 => v = some (.int (lowh D cn a)) ∧ g1 = g) := by
  refine gh_of [some (.ref x), some (.int (nI a)), none] (by decide) rfl (Nat.le_of_ble_eq_true rfl) (by simp [Value.category]) (fun z C hQ => ?_)
  show gh_W l d z 0 [some (.ref x), some (.int (nI a)), none] [] g 0 0
  have hD := hp.2.2.2.2
  have h16 := pow_le D hD
  have loop : ∀ (c i : Nat), i + c = D → (∀ j, j < i → cn &&& bitN (pn a (j + 1)) = 0) → gh_W l d z 2 [some (.ref x), some (.int (nI a)), some (.int (nI (i + 1)))] [] g 0 0 := by
    intro c
    induction c with
    | zero =>
      intro i hi hb
      have hi : i = D := by omega
      subst hi
      refine gh_iload_n C dE_lowestCounting_2 rfl ?_
      refine gh_aload_n C dE_lowestCounting_3 rfl ?_
      refine gh_get C fE_18 he rfl dE_lowestCounting_4 ?_
      refine gh_get C fE_25 hp.1 rfl dE_lowestCounting_7 ?_
      refine gh_icmp_gt C 37 dE_lowestCounting_10 (by decide) (fun c10 => ?_) (fun c10 => ?_)
      ·
        refine gh_iconst C (-1) dE_lowestCounting_37 (by decide) ?_
        refine gh_iret C hQ rfl dE_lowestCounting_38 ?_
        exact ⟨by simp only [lowh, lowc_no hb], rfl⟩
      · exact absurd (nI_lt (Nat.lt_succ_self i) (by omega)) c10
    | succ c ih =>
      intro i hi hb
      have hi2 : i + 1 ≤ D := by omega
      refine gh_iload_n C dE_lowestCounting_2 rfl ?_
      refine gh_aload_n C dE_lowestCounting_3 rfl ?_
      refine gh_get C fE_18 he rfl dE_lowestCounting_4 ?_
      refine gh_get C fE_25 hp.1 rfl dE_lowestCounting_7 ?_
      refine gh_icmp_gt C 37 dE_lowestCounting_10 (by decide) (fun c10 => ?_) (fun c10 => ?_)
      · exact absurd c10 (nI_nlt hi2 (by omega))
      ·
        refine gh_aload_n C dE_lowestCounting_13 rfl ?_
        refine gh_get C fE_30 he rfl dE_lowestCounting_14 ?_
        refine gh_iload_n C dE_lowestCounting_17 rfl ?_
        refine gh_iload_n C dE_lowestCounting_18 rfl ?_
        refine gh_callS C [.int (nI a), .int (nI (i + 1))] (c_pathNode l d _ a (i + 1) (by omega) (by omega)) lE_33 wG_pathNode sG_pathNode rfl rfl (Nat.le_of_ble_eq_true rfl) ⟨Nat.le_of_ble_eq_true rfl, Nat.le_of_ble_eq_true rfl⟩ (Nat.le_of_ble_eq_true rfl) (Nat.le_of_ble_eq_true rfl) dE_lowestCounting_19 (fun v19 g19 h19 => ?_)
        obtain ⟨rfl, rfl⟩ := h19
        refine gh_callS C [.int (nI (pn a (i + 1)))] (c_bit l d _ (nI (pn a (i + 1)))) lE_37 wG_bit sG_bit rfl rfl (Nat.le_of_ble_eq_true rfl) ⟨Nat.le_of_ble_eq_true rfl, Nat.le_of_ble_eq_true rfl⟩ (Nat.le_of_ble_eq_true rfl) (Nat.le_of_ble_eq_true rfl) dE_lowestCounting_22 (fun v22 g22 h22 => ?_)
        obtain ⟨rfl, rfl⟩ := h22
        refine gh_iand C dE_lowestCounting_25 ?_
        refine gh_if_eq C 31 dE_lowestCounting_26 (by decide) (fun c26 => ?_) (fun c26 => ?_)
        ·
          refine gh_iinc C (nI ((i + 1) + 1)) [some (.ref x), some (.int (nI a)), some (.int (nI ((i + 1) + 1)))] dE_lowestCounting_31 rfl (gh_inc (i + 1)) rfl ?_
          refine gh_goto C 2 dE_lowestCounting_34 (by decide) ?_
          exact ih (i + 1) (by omega) (fun j h2 => by
            by_cases h : j = i
            · subst h; exact c26
            · exact hb j (by omega))
        ·
          refine gh_iload_n C dE_lowestCounting_29 rfl ?_
          refine gh_iret C hQ rfl dE_lowestCounting_30 ?_
          exact ⟨by simp only [lowh, lowc_at (show i < D by omega) c26 hb], rfl⟩
  refine gh_iconst C 1 dE_lowestCounting_0 (by decide) ?_
  refine gh_istore_n C [some (.ref x), some (.int (nI a)), some (.int 1)] dE_lowestCounting_1 rfl (by simp) ?_
  exact loop D 0 (by omega) (fun j h2 => by omega)
def rbl (k : Nat) (K : Nat → Int32) : Bool := (List.range (2 ^ k)).all (fun i => K (2 * (2 ^ k + i)) == -1)
def shr (K : Nat → Int32) : Nat → Nat
  | 0 => 0
  | k + 1 => if rbl k K = true then shr K k else k + 1
theorem rbl_iff (k : Nat) (K : Nat → Int32) : rbl k K = true ↔ ∀ i, 2 ^ k ≤ i → i < 2 ^ (k + 1) → K (2 * i) = -1 := by
  have hpow : 2 ^ (k + 1) = 2 * 2 ^ k := by rw [Nat.pow_succ]; omega
  simp only [rbl, List.all_eq_true, List.mem_range, beq_iff_eq]
  constructor
  · intro h i h1 h2
    have := h (i - 2 ^ k) (by omega)
    rwa [show 2 ^ k + (i - 2 ^ k) = i by omega] at this
  · intro h i hi
    exact h (2 ^ k + i) (by omega) (by omega)
theorem shr_le (K : Nat → Int32) : ∀ D, shr K D ≤ D
  | 0 => Nat.le_refl 0
  | k + 1 => by
    unfold shr
    split
    · exact Nat.le_succ_of_le (shr_le K k)
    · exact Nat.le_refl _
def cut (a b : Nat) (x : Int32) (f : Nat → Int32) : Nat → Int32 := fun v => if a ≤ v ∧ v < b then x else f v
theorem cut_0 (a : Nat) (x : Int32) (f : Nat → Int32) : cut a a x f = f := by funext v; simp only [cut]; rw [if_neg (by omega)]
theorem cut_s {a b c i : Nat} (x : Int32) (f : Nat → Int32) (h1 : a ≤ i) (h2 : i < b) (h3 : b ≤ c) : upd (fun v => if (a ≤ v ∧ v < i) ∨ (b ≤ v ∧ v < c) then x else f v) i x = fun v => if (a ≤ v ∧ v < i + 1) ∨ (b ≤ v ∧ v < c) then x else f v := by
  funext v
  simp only [upd]
  by_cases h : v = i
  · subst h
    rw [if_pos rfl, if_pos (Or.inl ⟨h1, by omega⟩)]
  · rw [if_neg h]
    by_cases h5 : (a ≤ v ∧ v < i) ∨ (b ≤ v ∧ v < c)
    · rw [if_pos h5, if_pos (by omega)]
    · rw [if_neg h5, if_neg (by omega)]
def tst (g : gh_H) (e D t ka ba ua : Nat) (K B U : Nat → Int32) : gh_H := gh_u (tset g e ka ba ua K B U) (13, e) (t, .inr (4, [.int (nI D), .ref ka, .ref ba, .ref ua]))
theorem tst_pT {g : gh_H} {e D t ka ba ua : Nat} {K B U : Nat → Int32} (D1 : Nat) (h4 : D1 ≤ 4) (K1 B1 U1 : Nat → Int32) : pT (tst g e D1 t ka ba ua K1 B1 U1) e D1 t ka ba ua K1 B1 U1 := by
  unfold tst tset
  refine ⟨gh_us, ?_, ?_, ?_, h4⟩
  · rw [gh_un (gh_kd (by decide)), gh_un (gh_kd (by decide)), gh_un (gh_kd (by decide)), gh_us]
  · rw [gh_un (gh_kd (by decide)), gh_un (gh_kd (by decide)), gh_us]
  · rw [gh_un (gh_kd (by decide)), gh_us]
theorem tst_self {g : gh_H} {e D t ka ba ua : Nat} {K B U : Nat → Int32} (h : pT g e D t ka ba ua K B U) : tst g e D t ka ba ua K B U = g := by
  unfold tst; rw [tset_self h, gh_uself h.1]
theorem tst_tset (g : gh_H) (e D t ka ba ua : Nat) (K B U K1 B1 U1 : Nat → Int32) : tset (tst g e D t ka ba ua K B U) e ka ba ua K1 B1 U1 = tst g e D t ka ba ua K1 B1 U1 := by
  funext q
  unfold tst tset gh_u
  by_cases h1 : q = (16, e) <;> by_cases h2 : q = (15, e) <;> by_cases h3 : q = (14, e) <;> by_cases h4 : q = (13, e) <;> simp_all
theorem tst_d (g : gh_H) (e D D1 t ka ba ua : Nat) (K B U : Nat → Int32) : gh_u (tst g e D t ka ba ua K B U) (13, e) (t, .inr (4, [.int (nI D1), .ref ka, .ref ba, .ref ua])) = tst g e D1 t ka ba ua K B U := by unfold tst; rw [gh_uu]
theorem tW_s (k : Nat) : tW k + 2 ^ (k + 1) = tW (k + 1) ∧ tW k = 2 ^ (k + 1) - 1 := by
  have hpow : 2 ^ (k + 1 + 1) = 2 * 2 ^ (k + 1) := by rw [Nat.pow_succ]; omega
  have := p2pos (k + 1)
  unfold tW
  omega
theorem tW_m {a b : Nat} (h : a ≤ b) : tW a ≤ tW b := by
  unfold tW
  have : 2 ^ (a + 1) ≤ 2 ^ (b + 1) := Nat.pow_le_pow_right (by decide) (by omega)
  omega
theorem sh1m : ∀ D, D ≤ 4 → ((1 : Int32) <<< (nI D &&& 31)) - 1 = nI (2 ^ D - 1) := by decide +kernel
set_option maxRecDepth 100000 in
set_option maxHeartbeats 4000000 in
theorem c_shrink (l : Launch) (d : gh_D) (g : gh_H) {e D t ka ba ua : Nat} {K B U : Nat → Int32} (hp : pT g e D t ka ba ua K B U) : gh_C l d mT_shrink (rr 3 0 0) [.ref t] g (fun v g1 => v = none ∧ g1 = tst g e (shr K D) t ka ba ua (cut (tW (shr K D)) (tW D) (-1) K) (cut (tW (shr K D)) (tW D) (-1) B) (cut (tW (shr K D)) (tW D) 0 U)) := by
  refine gh_of [some (.ref t), none] (by decide) rfl (Nat.le_of_ble_eq_true rfl) (by simp [Value.category]) (fun z C hQ => ?_)
  show gh_W l d z 0 [some (.ref t), none] [] g 0 0
  have hD := hp.2.2.2.2
  have h31 := tW_le hD
  have loop : ∀ (k : Nat) (y : Option Value), k ≤ D → shr K k = shr K D → gh_W l d z 0 [some (.ref t), y] [] (tst g e k t ka ba ua (cut (tW k) (tW D) (-1) K) (cut (tW k) (tW D) (-1) B) (cut (tW k) (tW D) 0 U)) 0 0 := by
    intro k
    induction k with
    | zero =>
      intro y hk hs
      have hp1 := tst_pT (g := g) (e := e) (D := 0) (t := t) (ka := ka) (ba := ba) (ua := ua) (K := K) (B := B) (U := U) 0 (by decide) (cut (tW 0) (tW D) (-1) K) (cut (tW 0) (tW D) (-1) B) (cut (tW 0) (tW D) 0 U)
      refine gh_aload_n C dT_shrink_0 rfl ?_
      refine gh_get C fT_27 hp1.1 rfl dT_shrink_1 ?_
      refine gh_if_le C 68 dT_shrink_4 (by decide) (fun c4 => ?_) (fun c4 => ?_)
      ·
        refine gh_vret C hQ rfl dT_shrink_68 ?_
        exact ⟨rfl, by rw [← hs]; rfl⟩
      · exact absurd (by decide) c4
    | succ k ih =>
      intro y hk hs
      have hp1 := tst_pT (g := g) (e := e) (D := k + 1) (t := t) (ka := ka) (ba := ba) (ua := ua) (K := K) (B := B) (U := U) (k + 1) (by omega) (cut (tW (k + 1)) (tW D) (-1) K) (cut (tW (k + 1)) (tW D) (-1) B) (cut (tW (k + 1)) (tW D) 0 U)
      have hw := tW_s k
      have hm := tW_m hk
      have hk4 : k + 1 ≤ 4 := by omega
      have hpow : 2 ^ (k + 1) = 2 * 2 ^ k := by rw [Nat.pow_succ]; omega
      have hpk := p2pos k
      have inner : ∀ (c i : Nat), i + c = tW (k + 1) → tW k ≤ i → gh_W l d z 32 [some (.ref t), some (.int (nI i))] [] (tst g e (k + 1) t ka ba ua (fun v => if (tW k ≤ v ∧ v < i) ∨ (tW (k + 1) ≤ v ∧ v < tW D) then -1 else K v) (fun v => if (tW k ≤ v ∧ v < i) ∨ (tW (k + 1) ≤ v ∧ v < tW D) then -1 else B v) (fun v => if (tW k ≤ v ∧ v < i) ∨ (tW (k + 1) ≤ v ∧ v < tW D) then 0 else U v)) 0 0 ∨ rbl k K = false := by
        intro c
        by_cases hrb : rbl k K = false
        · exact fun _ _ _ => Or.inr hrb
        · have hrb : rbl k K = true := by simpa using hrb
          induction c with
          | zero =>
            intro i hi hi2
            refine Or.inl ?_
            have hi : i = tW (k + 1) := by omega
            have hp2 := tst_pT (g := g) (e := e) (D := k + 1) (t := t) (ka := ka) (ba := ba) (ua := ua) (K := K) (B := B) (U := U) (k + 1) (by omega) (fun v => if (tW k ≤ v ∧ v < i) ∨ (tW (k + 1) ≤ v ∧ v < tW D) then -1 else K v) (fun v => if (tW k ≤ v ∧ v < i) ∨ (tW (k + 1) ≤ v ∧ v < tW D) then -1 else B v) (fun v => if (tW k ≤ v ∧ v < i) ∨ (tW (k + 1) ≤ v ∧ v < tW D) then 0 else U v)
            have hcut : ∀ (x : Int32) (f : Nat → Int32), (fun v => if (tW k ≤ v ∧ v < i) ∨ (tW (k + 1) ≤ v ∧ v < tW D) then x else f v) = cut (tW k) (tW D) x f := by
              intro x f
              funext v
              simp only [cut]
              by_cases h : tW k ≤ v ∧ v < tW D
              · rw [if_pos h, if_pos (by omega)]
              · rw [if_neg h, if_neg (by omega)]
            refine gh_iload_n C dT_shrink_32 rfl ?_
            refine gh_iconst C 2 dT_shrink_33 (by decide) ?_
            refine gh_aload_n C dT_shrink_34 rfl ?_
            refine gh_get C fT_27 hp2.1 rfl dT_shrink_35 ?_
            refine gh_ishl C dT_shrink_38 ?_
            refine gh_iconst C 1 dT_shrink_39 (by decide) ?_
            refine gh_isub C dT_shrink_40 ?_
            refine gh_ti (nI (tW (k + 1))) (thr_w (k + 1) hk4) ?_
            refine gh_icmp_ge C 55 dT_shrink_41 (by decide) (fun c41 => ?_) (fun c41 => ?_)
            ·
              refine gh_aload_n C dT_shrink_55 rfl ?_
              refine gh_dup C dT_shrink_56 rfl ?_
              refine gh_get C fT_27 hp2.1 rfl dT_shrink_57 ?_
              refine gh_iconst C 1 dT_shrink_60 (by decide) ?_
              refine gh_isub C dT_shrink_61 ?_
              refine gh_ti (nI k) (nI_pred k) ?_
              refine gh_putL C [.int (nI k), .ref ka, .ref ba, .ref ua] pT_27 (by decide) hp2.1 rfl (by simp) rfl rfl dT_shrink_62 ?_
              refine gh_goto C 0 dT_shrink_65 (by decide) ?_
              rw [tst_d, hcut, hcut, hcut]
              exact ih _ (by omega) (by rw [← hs]; simp only [shr, if_pos hrb])
            · exact absurd (nI_le (Nat.le_of_eq hi.symm) (by omega)) c41
          | succ c ihc =>
            intro i hi hi2
            refine Or.inl ?_
            have hlt : i < tW (k + 1) := by omega
            have hp2 := tst_pT (g := g) (e := e) (D := k + 1) (t := t) (ka := ka) (ba := ba) (ua := ua) (K := K) (B := B) (U := U) (k + 1) (by omega) (fun v => if (tW k ≤ v ∧ v < i) ∨ (tW (k + 1) ≤ v ∧ v < tW D) then -1 else K v) (fun v => if (tW k ≤ v ∧ v < i) ∨ (tW (k + 1) ≤ v ∧ v < tW D) then -1 else B v) (fun v => if (tW k ≤ v ∧ v < i) ∨ (tW (k + 1) ≤ v ∧ v < tW D) then 0 else U v)
            refine gh_iload_n C dT_shrink_32 rfl ?_
            refine gh_iconst C 2 dT_shrink_33 (by decide) ?_
            refine gh_aload_n C dT_shrink_34 rfl ?_
            refine gh_get C fT_27 hp2.1 rfl dT_shrink_35 ?_
            refine gh_ishl C dT_shrink_38 ?_
            refine gh_iconst C 1 dT_shrink_39 (by decide) ?_
            refine gh_isub C dT_shrink_40 ?_
            refine gh_ti (nI (tW (k + 1))) (thr_w (k + 1) hk4) ?_
            refine gh_icmp_ge C 55 dT_shrink_41 (by decide) (fun c41 => ?_) (fun c41 => ?_)
            · exact absurd c41 (nI_ge hlt (by omega))
            ·
              refine gh_aload_n C dT_shrink_44 rfl ?_
              refine gh_iload_n C dT_shrink_45 rfl ?_
              refine gh_callV C [.int (nI i)] (c_blank l d _ hp2 (nI i)) lT_47 wT_blank vT_blank hp2.1 rfl rfl rfl (Nat.le_of_ble_eq_true rfl) ⟨Nat.le_of_ble_eq_true rfl, Nat.le_of_ble_eq_true rfl⟩ (Nat.le_of_ble_eq_true rfl) (Nat.le_of_ble_eq_true rfl) dT_shrink_46 (fun v46 g46 h46 => ?_)
              obtain ⟨rfl, rfl⟩ := h46
              rw [tput_n hk4 hlt, tput_n hk4 hlt, tput_n hk4 hlt, cut_s (-1) K hi2 hlt hm, cut_s (-1) B hi2 hlt hm, cut_s 0 U hi2 hlt hm, tst_tset]
              refine gh_iinc C (nI (i + 1)) [some (.ref t), some (.int (nI (i + 1)))] dT_shrink_49 rfl (gh_inc i) rfl ?_
              refine gh_goto C 32 dT_shrink_52 (by decide) ?_
              rcases ihc (i + 1) (by omega) (by omega) with h | h
              · exact h
              · rw [hrb] at h; cases h
      have hK1 : ∀ i, i < 2 ^ (k + 1) → cut (tW (k + 1)) (tW D) (-1) K (2 * i) = K (2 * i) := by
        intro i hi
        simp only [cut]
        rw [if_neg (by omega)]
      refine gh_aload_n C dT_shrink_0 rfl ?_
      refine gh_get C fT_27 hp1.1 rfl dT_shrink_1 ?_
      refine gh_if_le C 68 dT_shrink_4 (by decide) (fun c4 => ?_) (fun c4 => ?_)
      · exact absurd c4 (show ¬ nI (k + 1) ≤ 0 from nI_nle (by omega) (by omega))
      ·
        refine gh_aload_n C dT_shrink_7 rfl ?_
        refine gh_iconst C 1 dT_shrink_8 (by decide) ?_
        refine gh_aload_n C dT_shrink_9 rfl ?_
        refine gh_get C fT_27 hp1.1 rfl dT_shrink_10 ?_
        refine gh_iconst C 1 dT_shrink_13 (by decide) ?_
        refine gh_isub C dT_shrink_14 ?_
        refine gh_ti (nI k) (nI_pred k) ?_
        refine gh_ishl C dT_shrink_15 ?_
        refine gh_ti (nI (2 ^ k)) (sh1h k (by omega)) ?_
        refine gh_callV C [.int (nI (2 ^ k))] (c_firstLeaf l d _ hp1 (2 ^ k) (by omega)) lT_58 wT_firstLeafWithKey vT_firstLeafWithKey hp1.1 rfl rfl rfl (Nat.le_of_ble_eq_true rfl) ⟨Nat.le_of_ble_eq_true rfl, Nat.le_of_ble_eq_true rfl⟩ (Nat.le_of_ble_eq_true rfl) (Nat.le_of_ble_eq_true rfl) dT_shrink_16 (fun v16 g16 h16 => ?_)
        obtain ⟨⟨x, rfl, hx⟩, rfl⟩ := h16
        refine gh_iconst C (-1) dT_shrink_19 (by decide) ?_
        refine gh_icmp_ne C 68 dT_shrink_20 (by decide) (fun c20 => ?_) (fun c20 => ?_)
        ·
          have hrb : ¬ rbl k K = true := fun h => c20 (hx.mpr (fun i h1 h2 => by rw [hK1 i h2]; exact (rbl_iff k K).mp h i h1 h2))
          refine gh_vret C hQ rfl dT_shrink_68 ?_
          exact ⟨rfl, by rw [← hs]; simp only [shr, if_neg hrb]⟩
        ·
          have hrb : rbl k K = true := (rbl_iff k K).mpr (fun i h1 h2 => by rw [← hK1 i h2]; exact hx.mp c20 i h1 h2)
          refine gh_iconst C 1 dT_shrink_23 (by decide) ?_
          refine gh_aload_n C dT_shrink_24 rfl ?_
          refine gh_get C fT_27 hp1.1 rfl dT_shrink_25 ?_
          refine gh_ishl C dT_shrink_28 ?_
          refine gh_iconst C 1 dT_shrink_29 (by decide) ?_
          refine gh_isub C dT_shrink_30 ?_
          refine gh_ti (nI (tW k)) (by rw [sh1m (k + 1) hk4, hw.2]) ?_
          refine gh_istore_n C [some (.ref t), some (.int (nI (tW k)))] dT_shrink_31 rfl (by simp) ?_
          rcases inner (2 ^ (k + 1)) (tW k) (by omega) (Nat.le_refl _) with h | h
          · have hcut : ∀ (x : Int32) (f : Nat → Int32), (fun v => if (tW k ≤ v ∧ v < tW k) ∨ (tW (k + 1) ≤ v ∧ v < tW D) then x else f v) = cut (tW (k + 1)) (tW D) x f := by
              intro x f
              funext v
              simp only [cut]
              by_cases h : tW (k + 1) ≤ v ∧ v < tW D
              · rw [if_pos h, if_pos (by omega)]
              · rw [if_neg h, if_neg (by omega)]
            rw [hcut, hcut, hcut] at h
            exact h
          · rw [hrb] at h; cases h
  have h := loop D none (Nat.le_refl D) rfl
  rw [cut_0, cut_0, cut_0, tst_self hp] at h
  exact h
end
