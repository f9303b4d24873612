section
-- ===== PART A: goes FIRST, ahead of the names: the tables' words, and 'selects' of the private methods out of them =====
/-- a private method of a class that the tables say can be made, by its rows of tables_1 -/
def lw_okq (q : MethodName × Nat) : Prop := (q.1.cls ≠ "java/lang/invoke/MethodHandle" ∧ q.1.cls ≠ "java/lang/invoke/VarHandle") ∧ Cond.instantiable q.1.cls q.2 ∈ tables_1 ∧ Cond.privateMethod q.1 ∈ tables_1 ∧ Cond.instanceMethod q.1 ∈ tables_1
theorem lw_p0 : lw_okq (⟨"RatchetGroup", "gather", "(I)I"⟩, 10) := ⟨⟨by decide +kernel, by decide +kernel⟩, List.mem_of_getElem? (i := 19) (by decide +kernel), List.mem_of_getElem? (i := 245) (by decide +kernel), List.mem_of_getElem? (i := 246) (by decide +kernel)⟩
theorem lw_p1 : lw_okq (⟨"RatchetGroup", "isEpoch", "(I)Z"⟩, 10) := ⟨⟨by decide +kernel, by decide +kernel⟩, List.mem_of_getElem? (i := 19) (by decide +kernel), List.mem_of_getElem? (i := 257) (by decide +kernel), List.mem_of_getElem? (i := 258) (by decide +kernel)⟩
theorem lw_p2 : lw_okq (⟨"java/lang/Throwable", "fillInStackTrace", "(I)Ljava/lang/Throwable;"⟩, 6) := ⟨⟨by decide +kernel, by decide +kernel⟩, List.mem_of_getElem? (i := 375) (by decide +kernel), List.mem_of_getElem? (i := 373) (by decide +kernel), List.mem_of_getElem? (i := 374) (by decide +kernel)⟩
theorem lw_p3 : lw_okq (⟨"RatchetGroup", "mayPropose", "(I)Z"⟩, 10) := ⟨⟨by decide +kernel, by decide +kernel⟩, List.mem_of_getElem? (i := 19) (by decide +kernel), List.mem_of_getElem? (i := 451) (by decide +kernel), List.mem_of_getElem? (i := 452) (by decide +kernel)⟩
theorem lw_p4 : lw_okq (⟨"RatchetGroup", "isInLatest", "(I)Z"⟩, 10) := ⟨⟨by decide +kernel, by decide +kernel⟩, List.mem_of_getElem? (i := 19) (by decide +kernel), List.mem_of_getElem? (i := 455) (by decide +kernel), List.mem_of_getElem? (i := 456) (by decide +kernel)⟩
theorem lw_p5 : lw_okq (⟨"RatchetGroup", "propose", "(LRatchetGroup$Proposal;)I"⟩, 10) := ⟨⟨by decide +kernel, by decide +kernel⟩, List.mem_of_getElem? (i := 19) (by decide +kernel), List.mem_of_getElem? (i := 477) (by decide +kernel), List.mem_of_getElem? (i := 478) (by decide +kernel)⟩
theorem lw_p6 : lw_okq (⟨"RatchetGroup", "doRemoves", "(LRatchetGroup$Epoch;)V"⟩, 10) := ⟨⟨by decide +kernel, by decide +kernel⟩, List.mem_of_getElem? (i := 19) (by decide +kernel), List.mem_of_getElem? (i := 521) (by decide +kernel), List.mem_of_getElem? (i := 522) (by decide +kernel)⟩
theorem lw_p7 : lw_okq (⟨"RatchetGroup", "dismiss", "(I)V"⟩, 10) := ⟨⟨by decide +kernel, by decide +kernel⟩, List.mem_of_getElem? (i := 19) (by decide +kernel), List.mem_of_getElem? (i := 537) (by decide +kernel), List.mem_of_getElem? (i := 538) (by decide +kernel)⟩
theorem lw_p8 : lw_okq (⟨"RatchetGroup$Tree", "firstLeafWithKey", "(I)I"⟩, 4) := ⟨⟨by decide +kernel, by decide +kernel⟩, List.mem_of_getElem? (i := 98) (by decide +kernel), List.mem_of_getElem? (i := 546) (by decide +kernel), List.mem_of_getElem? (i := 547) (by decide +kernel)⟩
theorem lw_p9 : lw_okq (⟨"RatchetGroup", "doUpdates", "(LRatchetGroup$Epoch;)V"⟩, 10) := ⟨⟨by decide +kernel, by decide +kernel⟩, List.mem_of_getElem? (i := 19) (by decide +kernel), List.mem_of_getElem? (i := 552) (by decide +kernel), List.mem_of_getElem? (i := 553) (by decide +kernel)⟩
theorem lw_p10 : lw_okq (⟨"RatchetGroup", "doAdds", "(LRatchetGroup$Epoch;)V"⟩, 10) := ⟨⟨by decide +kernel, by decide +kernel⟩, List.mem_of_getElem? (i := 19) (by decide +kernel), List.mem_of_getElem? (i := 556) (by decide +kernel), List.mem_of_getElem? (i := 557) (by decide +kernel)⟩
theorem lw_p11 : lw_okq (⟨"RatchetGroup", "mayBeAdded", "(LRatchetGroup$KeyPackage;)Z"⟩, 10) := ⟨⟨by decide +kernel, by decide +kernel⟩, List.mem_of_getElem? (i := 19) (by decide +kernel), List.mem_of_getElem? (i := 560) (by decide +kernel), List.mem_of_getElem? (i := 561) (by decide +kernel)⟩
theorem lw_p12 : lw_okq (⟨"RatchetGroup", "hasLeaf", "(I)Z"⟩, 10) := ⟨⟨by decide +kernel, by decide +kernel⟩, List.mem_of_getElem? (i := 19) (by decide +kernel), List.mem_of_getElem? (i := 564) (by decide +kernel), List.mem_of_getElem? (i := 565) (by decide +kernel)⟩
theorem lw_p13 : lw_okq (⟨"RatchetGroup", "addBy", "(LRatchetGroup$KeyPackage;LRatchetGroup$Epoch;)V"⟩, 10) := ⟨⟨by decide +kernel, by decide +kernel⟩, List.mem_of_getElem? (i := 19) (by decide +kernel), List.mem_of_getElem? (i := 568) (by decide +kernel), List.mem_of_getElem? (i := 569) (by decide +kernel)⟩
theorem lw_p14 : lw_okq (⟨"RatchetGroup", "makePath", "(LRatchetGroup$Epoch;)I"⟩, 10) := ⟨⟨by decide +kernel, by decide +kernel⟩, List.mem_of_getElem? (i := 19) (by decide +kernel), List.mem_of_getElem? (i := 580) (by decide +kernel), List.mem_of_getElem? (i := 581) (by decide +kernel)⟩
theorem lw_p15 : lw_okq (⟨"RatchetGroup", "sendToNodes", "(LRatchetGroup$Epoch;II)V"⟩, 10) := ⟨⟨by decide +kernel, by decide +kernel⟩, List.mem_of_getElem? (i := 19) (by decide +kernel), List.mem_of_getElem? (i := 604) (by decide +kernel), List.mem_of_getElem? (i := 605) (by decide +kernel)⟩
def lw_privs_1 : List (MethodName × Nat) := [(⟨"RatchetGroup", "gather", "(I)I"⟩, 10), (⟨"RatchetGroup", "isEpoch", "(I)Z"⟩, 10), (⟨"java/lang/Throwable", "fillInStackTrace", "(I)Ljava/lang/Throwable;"⟩, 6), (⟨"RatchetGroup", "mayPropose", "(I)Z"⟩, 10), (⟨"RatchetGroup", "isInLatest", "(I)Z"⟩, 10), (⟨"RatchetGroup", "propose", "(LRatchetGroup$Proposal;)I"⟩, 10), (⟨"RatchetGroup", "doRemoves", "(LRatchetGroup$Epoch;)V"⟩, 10), (⟨"RatchetGroup", "dismiss", "(I)V"⟩, 10), (⟨"RatchetGroup$Tree", "firstLeafWithKey", "(I)I"⟩, 4), (⟨"RatchetGroup", "doUpdates", "(LRatchetGroup$Epoch;)V"⟩, 10), (⟨"RatchetGroup", "doAdds", "(LRatchetGroup$Epoch;)V"⟩, 10), (⟨"RatchetGroup", "mayBeAdded", "(LRatchetGroup$KeyPackage;)Z"⟩, 10), (⟨"RatchetGroup", "hasLeaf", "(I)Z"⟩, 10), (⟨"RatchetGroup", "addBy", "(LRatchetGroup$KeyPackage;LRatchetGroup$Epoch;)V"⟩, 10), (⟨"RatchetGroup", "makePath", "(LRatchetGroup$Epoch;)I"⟩, 10), (⟨"RatchetGroup", "sendToNodes", "(LRatchetGroup$Epoch;II)V"⟩, 10)]
theorem lw_r1 : ∀ q ∈ lw_privs_1, lw_okq q := List.forall_mem_cons.mpr ⟨lw_p0, List.forall_mem_cons.mpr ⟨lw_p1, List.forall_mem_cons.mpr ⟨lw_p2, List.forall_mem_cons.mpr ⟨lw_p3, List.forall_mem_cons.mpr ⟨lw_p4, List.forall_mem_cons.mpr ⟨lw_p5, List.forall_mem_cons.mpr ⟨lw_p6, List.forall_mem_cons.mpr ⟨lw_p7, List.forall_mem_cons.mpr ⟨lw_p8, List.forall_mem_cons.mpr ⟨lw_p9, List.forall_mem_cons.mpr ⟨lw_p10, List.forall_mem_cons.mpr ⟨lw_p11, List.forall_mem_cons.mpr ⟨lw_p12, List.forall_mem_cons.mpr ⟨lw_p13, List.forall_mem_cons.mpr ⟨lw_p14, List.forall_mem_cons.mpr ⟨lw_p15, fun _ h => absurd h List.not_mem_nil⟩⟩⟩⟩⟩⟩⟩⟩⟩⟩⟩⟩⟩⟩⟩⟩
theorem lw_p16 : lw_okq (⟨"RatchetGroup", "encrypt", "(LRatchetGroup$Epoch;II)V"⟩, 10) := ⟨⟨by decide +kernel, by decide +kernel⟩, List.mem_of_getElem? (i := 19) (by decide +kernel), List.mem_of_getElem? (i := 608) (by decide +kernel), List.mem_of_getElem? (i := 609) (by decide +kernel)⟩
theorem lw_p17 : lw_okq (⟨"RatchetGroup", "sendToAdded", "(LRatchetGroup$Epoch;III)V"⟩, 10) := ⟨⟨by decide +kernel, by decide +kernel⟩, List.mem_of_getElem? (i := 19) (by decide +kernel), List.mem_of_getElem? (i := 613) (by decide +kernel), List.mem_of_getElem? (i := 614) (by decide +kernel)⟩
theorem lw_p18 : lw_okq (⟨"RatchetGroup", "openEpoch", "(LRatchetGroup$Epoch;LRatchetGroup$Epoch;I)V"⟩, 10) := ⟨⟨by decide +kernel, by decide +kernel⟩, List.mem_of_getElem? (i := 19) (by decide +kernel), List.mem_of_getElem? (i := 617) (by decide +kernel), List.mem_of_getElem? (i := 618) (by decide +kernel)⟩
theorem lw_p19 : lw_okq (⟨"RatchetGroup$Member", "dropOldKeys", "(LRatchetGroup$Tree;)V"⟩, 7) := ⟨⟨by decide +kernel, by decide +kernel⟩, List.mem_of_getElem? (i := 61) (by decide +kernel), List.mem_of_getElem? (i := 626) (by decide +kernel), List.mem_of_getElem? (i := 627) (by decide +kernel)⟩
theorem lw_p20 : lw_okq (⟨"RatchetGroup$Member", "canOpen", "(LRatchetGroup$Epoch;I)Z"⟩, 7) := ⟨⟨by decide +kernel, by decide +kernel⟩, List.mem_of_getElem? (i := 61) (by decide +kernel), List.mem_of_getElem? (i := 666) (by decide +kernel), List.mem_of_getElem? (i := 667) (by decide +kernel)⟩
theorem lw_p21 : lw_okq (⟨"RatchetGroup", "earliestWelcome", "(I)I"⟩, 10) := ⟨⟨by decide +kernel, by decide +kernel⟩, List.mem_of_getElem? (i := 19) (by decide +kernel), List.mem_of_getElem? (i := 672) (by decide +kernel), List.mem_of_getElem? (i := 673) (by decide +kernel)⟩
theorem lw_p22 : lw_okq (⟨"RatchetGroup", "joinBy", "(LRatchetGroup$Member;LRatchetGroup$KeyPackage;)V"⟩, 10) := ⟨⟨by decide +kernel, by decide +kernel⟩, List.mem_of_getElem? (i := 19) (by decide +kernel), List.mem_of_getElem? (i := 676) (by decide +kernel), List.mem_of_getElem? (i := 677) (by decide +kernel)⟩
theorem lw_p23 : lw_okq (⟨"RatchetGroupModel", "make", "(III)I"⟩, 52) := ⟨⟨by decide +kernel, by decide +kernel⟩, List.mem_of_getElem? (i := 690) (by decide +kernel), List.mem_of_getElem? (i := 696) (by decide +kernel), List.mem_of_getElem? (i := 697) (by decide +kernel)⟩
theorem lw_p24 : lw_okq (⟨"RatchetGroupModel", "leave", "(I)V"⟩, 52) := ⟨⟨by decide +kernel, by decide +kernel⟩, List.mem_of_getElem? (i := 690) (by decide +kernel), List.mem_of_getElem? (i := 700) (by decide +kernel), List.mem_of_getElem? (i := 701) (by decide +kernel)⟩
theorem lw_p25 : lw_okq (⟨"RatchetGroupModel", "isAsked", "(IZ)Z"⟩, 52) := ⟨⟨by decide +kernel, by decide +kernel⟩, List.mem_of_getElem? (i := 690) (by decide +kernel), List.mem_of_getElem? (i := 877) (by decide +kernel), List.mem_of_getElem? (i := 878) (by decide +kernel)⟩
theorem lw_p26 : lw_okq (⟨"RatchetGroupModel", "isLatest", "(I)Z"⟩, 52) := ⟨⟨by decide +kernel, by decide +kernel⟩, List.mem_of_getElem? (i := 690) (by decide +kernel), List.mem_of_getElem? (i := 881) (by decide +kernel), List.mem_of_getElem? (i := 882) (by decide +kernel)⟩
theorem lw_p27 : lw_okq (⟨"RatchetGroupModel", "propose", "(III)I"⟩, 52) := ⟨⟨by decide +kernel, by decide +kernel⟩, List.mem_of_getElem? (i := 690) (by decide +kernel), List.mem_of_getElem? (i := 885) (by decide +kernel), List.mem_of_getElem? (i := 886) (by decide +kernel)⟩
theorem lw_p28 : lw_okq (⟨"RatchetGroupModel", "change", "(IZ)V"⟩, 52) := ⟨⟨by decide +kernel, by decide +kernel⟩, List.mem_of_getElem? (i := 690) (by decide +kernel), List.mem_of_getElem? (i := 901) (by decide +kernel), List.mem_of_getElem? (i := 902) (by decide +kernel)⟩
theorem lw_p29 : lw_okq (⟨"RatchetGroupModel", "copyTree", "(II)V"⟩, 52) := ⟨⟨by decide +kernel, by decide +kernel⟩, List.mem_of_getElem? (i := 690) (by decide +kernel), List.mem_of_getElem? (i := 905) (by decide +kernel), List.mem_of_getElem? (i := 906) (by decide +kernel)⟩
theorem lw_p30 : lw_okq (⟨"RatchetGroupModel", "width", "(I)I"⟩, 52) := ⟨⟨by decide +kernel, by decide +kernel⟩, List.mem_of_getElem? (i := 690) (by decide +kernel), List.mem_of_getElem? (i := 909) (by decide +kernel), List.mem_of_getElem? (i := 910) (by decide +kernel)⟩
theorem lw_p31 : lw_okq (⟨"RatchetGroupModel", "findRemoves", "(II)V"⟩, 52) := ⟨⟨by decide +kernel, by decide +kernel⟩, List.mem_of_getElem? (i := 690) (by decide +kernel), List.mem_of_getElem? (i := 913) (by decide +kernel), List.mem_of_getElem? (i := 914) (by decide +kernel)⟩
def lw_privs_2 : List (MethodName × Nat) := [(⟨"RatchetGroup", "encrypt", "(LRatchetGroup$Epoch;II)V"⟩, 10), (⟨"RatchetGroup", "sendToAdded", "(LRatchetGroup$Epoch;III)V"⟩, 10), (⟨"RatchetGroup", "openEpoch", "(LRatchetGroup$Epoch;LRatchetGroup$Epoch;I)V"⟩, 10), (⟨"RatchetGroup$Member", "dropOldKeys", "(LRatchetGroup$Tree;)V"⟩, 7), (⟨"RatchetGroup$Member", "canOpen", "(LRatchetGroup$Epoch;I)Z"⟩, 7), (⟨"RatchetGroup", "earliestWelcome", "(I)I"⟩, 10), (⟨"RatchetGroup", "joinBy", "(LRatchetGroup$Member;LRatchetGroup$KeyPackage;)V"⟩, 10), (⟨"RatchetGroupModel", "make", "(III)I"⟩, 52), (⟨"RatchetGroupModel", "leave", "(I)V"⟩, 52), (⟨"RatchetGroupModel", "isAsked", "(IZ)Z"⟩, 52), (⟨"RatchetGroupModel", "isLatest", "(I)Z"⟩, 52), (⟨"RatchetGroupModel", "propose", "(III)I"⟩, 52), (⟨"RatchetGroupModel", "change", "(IZ)V"⟩, 52), (⟨"RatchetGroupModel", "copyTree", "(II)V"⟩, 52), (⟨"RatchetGroupModel", "width", "(I)I"⟩, 52), (⟨"RatchetGroupModel", "findRemoves", "(II)V"⟩, 52)]
theorem lw_r2 : ∀ q ∈ lw_privs_2, lw_okq q := List.forall_mem_cons.mpr ⟨lw_p16, List.forall_mem_cons.mpr ⟨lw_p17, List.forall_mem_cons.mpr ⟨lw_p18, List.forall_mem_cons.mpr ⟨lw_p19, List.forall_mem_cons.mpr ⟨lw_p20, List.forall_mem_cons.mpr ⟨lw_p21, List.forall_mem_cons.mpr ⟨lw_p22, List.forall_mem_cons.mpr ⟨lw_p23, List.forall_mem_cons.mpr ⟨lw_p24, List.forall_mem_cons.mpr ⟨lw_p25, List.forall_mem_cons.mpr ⟨lw_p26, List.forall_mem_cons.mpr ⟨lw_p27, List.forall_mem_cons.mpr ⟨lw_p28, List.forall_mem_cons.mpr ⟨lw_p29, List.forall_mem_cons.mpr ⟨lw_p30, List.forall_mem_cons.mpr ⟨lw_p31, fun _ h => absurd h List.not_mem_nil⟩⟩⟩⟩⟩⟩⟩⟩⟩⟩⟩⟩⟩⟩⟩⟩
theorem lw_p32 : lw_okq (⟨"RatchetGroupModel", "findUpdates", "(II)V"⟩, 52) := ⟨⟨by decide +kernel, by decide +kernel⟩, List.mem_of_getElem? (i := 690) (by decide +kernel), List.mem_of_getElem? (i := 917) (by decide +kernel), List.mem_of_getElem? (i := 918) (by decide +kernel)⟩
theorem lw_p33 : lw_okq (⟨"RatchetGroupModel", "doRemoves", "(I)V"⟩, 52) := ⟨⟨by decide +kernel, by decide +kernel⟩, List.mem_of_getElem? (i := 690) (by decide +kernel), List.mem_of_getElem? (i := 921) (by decide +kernel), List.mem_of_getElem? (i := 922) (by decide +kernel)⟩
theorem lw_p34 : lw_okq (⟨"RatchetGroupModel", "blank", "(II)V"⟩, 52) := ⟨⟨by decide +kernel, by decide +kernel⟩, List.mem_of_getElem? (i := 690) (by decide +kernel), List.mem_of_getElem? (i := 925) (by decide +kernel), List.mem_of_getElem? (i := 926) (by decide +kernel)⟩
theorem lw_p35 : lw_okq (⟨"RatchetGroupModel", "blankPath", "(II)V"⟩, 52) := ⟨⟨by decide +kernel, by decide +kernel⟩, List.mem_of_getElem? (i := 690) (by decide +kernel), List.mem_of_getElem? (i := 929) (by decide +kernel), List.mem_of_getElem? (i := 930) (by decide +kernel)⟩
theorem lw_p36 : lw_okq (⟨"RatchetGroupModel", "isRightBlank", "(I)Z"⟩, 52) := ⟨⟨by decide +kernel, by decide +kernel⟩, List.mem_of_getElem? (i := 690) (by decide +kernel), List.mem_of_getElem? (i := 936) (by decide +kernel), List.mem_of_getElem? (i := 937) (by decide +kernel)⟩
theorem lw_p37 : lw_okq (⟨"RatchetGroupModel", "doUpdates", "(I)V"⟩, 52) := ⟨⟨by decide +kernel, by decide +kernel⟩, List.mem_of_getElem? (i := 690) (by decide +kernel), List.mem_of_getElem? (i := 940) (by decide +kernel), List.mem_of_getElem? (i := 941) (by decide +kernel)⟩
theorem lw_p38 : lw_okq (⟨"RatchetGroupModel", "set", "(III)V"⟩, 52) := ⟨⟨by decide +kernel, by decide +kernel⟩, List.mem_of_getElem? (i := 690) (by decide +kernel), List.mem_of_getElem? (i := 944) (by decide +kernel), List.mem_of_getElem? (i := 945) (by decide +kernel)⟩
theorem lw_p39 : lw_okq (⟨"RatchetGroupModel", "doAdds", "(I)V"⟩, 52) := ⟨⟨by decide +kernel, by decide +kernel⟩, List.mem_of_getElem? (i := 690) (by decide +kernel), List.mem_of_getElem? (i := 948) (by decide +kernel), List.mem_of_getElem? (i := 949) (by decide +kernel)⟩
theorem lw_p40 : lw_okq (⟨"RatchetGroupModel", "mayAdd", "(II)Z"⟩, 52) := ⟨⟨by decide +kernel, by decide +kernel⟩, List.mem_of_getElem? (i := 690) (by decide +kernel), List.mem_of_getElem? (i := 952) (by decide +kernel), List.mem_of_getElem? (i := 953) (by decide +kernel)⟩
theorem lw_p41 : lw_okq (⟨"RatchetGroupModel", "leafOf", "(II)I"⟩, 52) := ⟨⟨by decide +kernel, by decide +kernel⟩, List.mem_of_getElem? (i := 690) (by decide +kernel), List.mem_of_getElem? (i := 956) (by decide +kernel), List.mem_of_getElem? (i := 957) (by decide +kernel)⟩
theorem lw_p42 : lw_okq (⟨"RatchetGroupModel", "freeLeaf", "(I)I"⟩, 52) := ⟨⟨by decide +kernel, by decide +kernel⟩, List.mem_of_getElem? (i := 690) (by decide +kernel), List.mem_of_getElem? (i := 960) (by decide +kernel), List.mem_of_getElem? (i := 961) (by decide +kernel)⟩
theorem lw_p43 : lw_okq (⟨"RatchetGroupModel", "renew", "(II)I"⟩, 52) := ⟨⟨by decide +kernel, by decide +kernel⟩, List.mem_of_getElem? (i := 690) (by decide +kernel), List.mem_of_getElem? (i := 964) (by decide +kernel), List.mem_of_getElem? (i := 965) (by decide +kernel)⟩
theorem lw_p44 : lw_okq (⟨"RatchetGroupModel", "resolve", "(II)V"⟩, 52) := ⟨⟨by decide +kernel, by decide +kernel⟩, List.mem_of_getElem? (i := 690) (by decide +kernel), List.mem_of_getElem? (i := 968) (by decide +kernel), List.mem_of_getElem? (i := 969) (by decide +kernel)⟩
theorem lw_p45 : lw_okq (⟨"RatchetGroupModel", "of", "(III)I"⟩, 52) := ⟨⟨by decide +kernel, by decide +kernel⟩, List.mem_of_getElem? (i := 690) (by decide +kernel), List.mem_of_getElem? (i := 975) (by decide +kernel), List.mem_of_getElem? (i := 976) (by decide +kernel)⟩
theorem lw_p46 : lw_okq (⟨"RatchetGroupModel", "encrypt", "(III)V"⟩, 52) := ⟨⟨by decide +kernel, by decide +kernel⟩, List.mem_of_getElem? (i := 690) (by decide +kernel), List.mem_of_getElem? (i := 979) (by decide +kernel), List.mem_of_getElem? (i := 980) (by decide +kernel)⟩
theorem lw_p47 : lw_okq (⟨"RatchetGroupModel", "welcome", "(II)V"⟩, 52) := ⟨⟨by decide +kernel, by decide +kernel⟩, List.mem_of_getElem? (i := 690) (by decide +kernel), List.mem_of_getElem? (i := 983) (by decide +kernel), List.mem_of_getElem? (i := 984) (by decide +kernel)⟩
def lw_privs_3 : List (MethodName × Nat) := [(⟨"RatchetGroupModel", "findUpdates", "(II)V"⟩, 52), (⟨"RatchetGroupModel", "doRemoves", "(I)V"⟩, 52), (⟨"RatchetGroupModel", "blank", "(II)V"⟩, 52), (⟨"RatchetGroupModel", "blankPath", "(II)V"⟩, 52), (⟨"RatchetGroupModel", "isRightBlank", "(I)Z"⟩, 52), (⟨"RatchetGroupModel", "doUpdates", "(I)V"⟩, 52), (⟨"RatchetGroupModel", "set", "(III)V"⟩, 52), (⟨"RatchetGroupModel", "doAdds", "(I)V"⟩, 52), (⟨"RatchetGroupModel", "mayAdd", "(II)Z"⟩, 52), (⟨"RatchetGroupModel", "leafOf", "(II)I"⟩, 52), (⟨"RatchetGroupModel", "freeLeaf", "(I)I"⟩, 52), (⟨"RatchetGroupModel", "renew", "(II)I"⟩, 52), (⟨"RatchetGroupModel", "resolve", "(II)V"⟩, 52), (⟨"RatchetGroupModel", "of", "(III)I"⟩, 52), (⟨"RatchetGroupModel", "encrypt", "(III)V"⟩, 52), (⟨"RatchetGroupModel", "welcome", "(II)V"⟩, 52)]
theorem lw_r3 : ∀ q ∈ lw_privs_3, lw_okq q := List.forall_mem_cons.mpr ⟨lw_p32, List.forall_mem_cons.mpr ⟨lw_p33, List.forall_mem_cons.mpr ⟨lw_p34, List.forall_mem_cons.mpr ⟨lw_p35, List.forall_mem_cons.mpr ⟨lw_p36, List.forall_mem_cons.mpr ⟨lw_p37, List.forall_mem_cons.mpr ⟨lw_p38, List.forall_mem_cons.mpr ⟨lw_p39, List.forall_mem_cons.mpr ⟨lw_p40, List.forall_mem_cons.mpr ⟨lw_p41, List.forall_mem_cons.mpr ⟨lw_p42, List.forall_mem_cons.mpr ⟨lw_p43, List.forall_mem_cons.mpr ⟨lw_p44, List.forall_mem_cons.mpr ⟨lw_p45, List.forall_mem_cons.mpr ⟨lw_p46, List.forall_mem_cons.mpr ⟨lw_p47, fun _ h => absurd h List.not_mem_nil⟩⟩⟩⟩⟩⟩⟩⟩⟩⟩⟩⟩⟩⟩⟩⟩
theorem lw_p48 : lw_okq (⟨"RatchetGroupModel", "meeting", "(II)I"⟩, 52) := ⟨⟨by decide +kernel, by decide +kernel⟩, List.mem_of_getElem? (i := 690) (by decide +kernel), List.mem_of_getElem? (i := 987) (by decide +kernel), List.mem_of_getElem? (i := 988) (by decide +kernel)⟩
theorem lw_p49 : lw_okq (⟨"RatchetGroupModel", "advance", "(IIZ)V"⟩, 52) := ⟨⟨by decide +kernel, by decide +kernel⟩, List.mem_of_getElem? (i := 690) (by decide +kernel), List.mem_of_getElem? (i := 991) (by decide +kernel), List.mem_of_getElem? (i := 992) (by decide +kernel)⟩
theorem lw_p50 : lw_okq (⟨"RatchetGroupModel", "keep", "(II)V"⟩, 52) := ⟨⟨by decide +kernel, by decide +kernel⟩, List.mem_of_getElem? (i := 690) (by decide +kernel), List.mem_of_getElem? (i := 995) (by decide +kernel), List.mem_of_getElem? (i := 996) (by decide +kernel)⟩
theorem lw_p51 : lw_okq (⟨"RatchetGroupModel", "tell", "(III)V"⟩, 52) := ⟨⟨by decide +kernel, by decide +kernel⟩, List.mem_of_getElem? (i := 690) (by decide +kernel), List.mem_of_getElem? (i := 999) (by decide +kernel), List.mem_of_getElem? (i := 1000) (by decide +kernel)⟩
theorem lw_p52 : lw_okq (⟨"RatchetGroupModel", "nextPackage", "(I)I"⟩, 52) := ⟨⟨by decide +kernel, by decide +kernel⟩, List.mem_of_getElem? (i := 690) (by decide +kernel), List.mem_of_getElem? (i := 1007) (by decide +kernel), List.mem_of_getElem? (i := 1008) (by decide +kernel)⟩
theorem lw_p53 : lw_okq (⟨"RatchetGroupModel", "join", "(II)V"⟩, 52) := ⟨⟨by decide +kernel, by decide +kernel⟩, List.mem_of_getElem? (i := 690) (by decide +kernel), List.mem_of_getElem? (i := 1011) (by decide +kernel), List.mem_of_getElem? (i := 1012) (by decide +kernel)⟩
theorem lw_p54 : lw_okq (⟨"RatchetGroupModel", "follow", "(I)V"⟩, 52) := ⟨⟨by decide +kernel, by decide +kernel⟩, List.mem_of_getElem? (i := 690) (by decide +kernel), List.mem_of_getElem? (i := 1015) (by decide +kernel), List.mem_of_getElem? (i := 1016) (by decide +kernel)⟩
theorem lw_p55 : lw_okq (⟨"RatchetGroupModel", "gather", "(I)V"⟩, 52) := ⟨⟨by decide +kernel, by decide +kernel⟩, List.mem_of_getElem? (i := 690) (by decide +kernel), List.mem_of_getElem? (i := 1019) (by decide +kernel), List.mem_of_getElem? (i := 1020) (by decide +kernel)⟩
theorem lw_p56 : lw_okq (⟨"RatchetGroupModel", "hold", "(I)V"⟩, 52) := ⟨⟨by decide +kernel, by decide +kernel⟩, List.mem_of_getElem? (i := 690) (by decide +kernel), List.mem_of_getElem? (i := 1023) (by decide +kernel), List.mem_of_getElem? (i := 1024) (by decide +kernel)⟩
theorem lw_p57 : lw_okq (⟨"RatchetGroupModel", "isHeld", "(I)Z"⟩, 52) := ⟨⟨by decide +kernel, by decide +kernel⟩, List.mem_of_getElem? (i := 690) (by decide +kernel), List.mem_of_getElem? (i := 1027) (by decide +kernel), List.mem_of_getElem? (i := 1028) (by decide +kernel)⟩
theorem lw_p58 : lw_okq (⟨"RatchetGroupModel", "intrude", "()V"⟩, 52) := ⟨⟨by decide +kernel, by decide +kernel⟩, List.mem_of_getElem? (i := 690) (by decide +kernel), List.mem_of_getElem? (i := 1067) (by decide +kernel), List.mem_of_getElem? (i := 1068) (by decide +kernel)⟩
theorem lw_p59 : lw_okq (⟨"RatchetGroupModel", "follows", "(I)Z"⟩, 52) := ⟨⟨by decide +kernel, by decide +kernel⟩, List.mem_of_getElem? (i := 690) (by decide +kernel), List.mem_of_getElem? (i := 1071) (by decide +kernel), List.mem_of_getElem? (i := 1072) (by decide +kernel)⟩
def lw_privs_4 : List (MethodName × Nat) := [(⟨"RatchetGroupModel", "meeting", "(II)I"⟩, 52), (⟨"RatchetGroupModel", "advance", "(IIZ)V"⟩, 52), (⟨"RatchetGroupModel", "keep", "(II)V"⟩, 52), (⟨"RatchetGroupModel", "tell", "(III)V"⟩, 52), (⟨"RatchetGroupModel", "nextPackage", "(I)I"⟩, 52), (⟨"RatchetGroupModel", "join", "(II)V"⟩, 52), (⟨"RatchetGroupModel", "follow", "(I)V"⟩, 52), (⟨"RatchetGroupModel", "gather", "(I)V"⟩, 52), (⟨"RatchetGroupModel", "hold", "(I)V"⟩, 52), (⟨"RatchetGroupModel", "isHeld", "(I)Z"⟩, 52), (⟨"RatchetGroupModel", "intrude", "()V"⟩, 52), (⟨"RatchetGroupModel", "follows", "(I)Z"⟩, 52)]
theorem lw_r4 : ∀ q ∈ lw_privs_4, lw_okq q := List.forall_mem_cons.mpr ⟨lw_p48, List.forall_mem_cons.mpr ⟨lw_p49, List.forall_mem_cons.mpr ⟨lw_p50, List.forall_mem_cons.mpr ⟨lw_p51, List.forall_mem_cons.mpr ⟨lw_p52, List.forall_mem_cons.mpr ⟨lw_p53, List.forall_mem_cons.mpr ⟨lw_p54, List.forall_mem_cons.mpr ⟨lw_p55, List.forall_mem_cons.mpr ⟨lw_p56, List.forall_mem_cons.mpr ⟨lw_p57, List.forall_mem_cons.mpr ⟨lw_p58, List.forall_mem_cons.mpr ⟨lw_p59, fun _ h => absurd h List.not_mem_nil⟩⟩⟩⟩⟩⟩⟩⟩⟩⟩⟩⟩
def lw_privs : List (MethodName × Nat) := lw_privs_1 ++ (lw_privs_2 ++ (lw_privs_3 ++ (lw_privs_4)))
def lw_tbl : List Cond := k2_sels lw_privs ++ tables_1
theorem lw_privs_ok : ∀ q ∈ lw_privs, lw_okq q := by
  show ∀ q ∈ lw_privs_1 ++ (lw_privs_2 ++ (lw_privs_3 ++ (lw_privs_4))), lw_okq q
  exact List.forall_mem_append.mpr ⟨lw_r1, List.forall_mem_append.mpr ⟨lw_r2, List.forall_mem_append.mpr ⟨lw_r3, lw_r4⟩⟩⟩
end
section
def RG : String := "RatchetGroup"
def FG : u_T := fun k => match k with
  | 0 => ("RatchetGroup", "secrets", "LRatchetGroup$Secrets;", true)
  | 1 => ("RatchetGroup", "members", "[LRatchetGroup$Member;", true)
  | 2 => ("RatchetGroup", "epochs", "[LRatchetGroup$Epoch;", true)
  | 3 => ("RatchetGroup", "epochCount", "I", false)
  | 4 => ("RatchetGroup", "packages", "[LRatchetGroup$KeyPackage;", true)
  | 5 => ("RatchetGroup", "packageCount", "I", false)
  | 6 => ("RatchetGroup", "proposals", "[LRatchetGroup$Proposal;", true)
  | 7 => ("RatchetGroup", "proposalCount", "I", false)
  | 8 => ("RatchetGroup", "owners", "[I", true)
  | _ => ("RatchetGroup", "held", "[I", true)
def tG : Nat → FieldType := fun k => match k with
  | 0 => (.object "RatchetGroup$Secrets")
  | 1 => (.array (.object "RatchetGroup$Member"))
  | 2 => (.array (.object "RatchetGroup$Epoch"))
  | 3 => .int
  | 4 => (.array (.object "RatchetGroup$KeyPackage"))
  | 5 => .int
  | 6 => (.array (.object "RatchetGroup$Proposal"))
  | 7 => .int
  | 8 => (.array .int)
  | _ => (.array .int)
theorem nG : ∀ a, a < 10 → ∀ b, b < 10 → a ≠ b → (FG a).2.1 ≠ (FG b).2.1 := by decide +kernel
theorem tG_ok : ∀ k, k < 10 → parseFieldDescriptor (FG k).2.2.1 = some (tG k) := by decide +kernel
def RS : String := "RatchetGroup$Secrets"
def FS : u_T := fun k => match k with
  | 0 => ("RatchetGroup$Secrets", "out", "[B", false)
  | 1 => ("RatchetGroup$Secrets", "made", "I", false)
  | 2 => ("RatchetGroup$Secrets", "from", "[I", false)
  | 3 => ("RatchetGroup$Secrets", "also", "[I", false)
  | 4 => ("RatchetGroup$Secrets", "to", "[I", false)
  | _ => ("RatchetGroup$Secrets", "rules", "I", false)
def tS : Nat → FieldType := fun k => match k with
  | 0 => (.array .byte)
  | 1 => .int
  | 2 => (.array .int)
  | 3 => (.array .int)
  | 4 => (.array .int)
  | _ => .int
theorem nS : ∀ a, a < 6 → ∀ b, b < 6 → a ≠ b → (FS a).2.1 ≠ (FS b).2.1 := by decide +kernel
theorem tS_ok : ∀ k, k < 6 → parseFieldDescriptor (FS k).2.2.1 = some (tS k) := by decide +kernel
def RB : String := "RatchetGroup$Member"
def FB : u_T := fun k => match k with
  | 0 => ("RatchetGroup$Member", "epoch", "I", false)
  | 1 => ("RatchetGroup$Member", "leaf", "I", false)
  | 2 => ("RatchetGroup$Member", "secret", "I", false)
  | 3 => ("RatchetGroup$Member", "stuckCount", "I", false)
  | 4 => ("RatchetGroup$Member", "keys", "[I", true)
  | 5 => ("RatchetGroup$Member", "updates", "[I", true)
  | _ => ("RatchetGroup$Member", "updateCount", "I", false)
def tB : Nat → FieldType := fun k => match k with
  | 0 => .int
  | 1 => .int
  | 2 => .int
  | 3 => .int
  | 4 => (.array .int)
  | 5 => (.array .int)
  | _ => .int
theorem nB : ∀ a, a < 7 → ∀ b, b < 7 → a ≠ b → (FB a).2.1 ≠ (FB b).2.1 := by decide +kernel
theorem tB_ok : ∀ k, k < 7 → parseFieldDescriptor (FB k).2.2.1 = some (tB k) := by decide +kernel
def RE : String := "RatchetGroup$Epoch"
def FE : u_T := fun k => match k with
  | 0 => ("RatchetGroup$Epoch", "number", "I", true)
  | 1 => ("RatchetGroup$Epoch", "tree", "LRatchetGroup$Tree;", true)
  | 2 => ("RatchetGroup$Epoch", "committerLeaf", "I", true)
  | 3 => ("RatchetGroup$Epoch", "secret", "I", false)
  | 4 => ("RatchetGroup$Epoch", "counting", "I", false)
  | 5 => ("RatchetGroup$Epoch", "removed", "I", false)
  | 6 => ("RatchetGroup$Epoch", "updated", "I", false)
  | 7 => ("RatchetGroup$Epoch", "added", "I", false)
  | _ => ("RatchetGroup$Epoch", "encrypted", "I", false)
def tE : Nat → FieldType := fun k => match k with
  | 0 => .int
  | 1 => (.object "RatchetGroup$Tree")
  | 2 => .int
  | 3 => .int
  | 4 => .int
  | 5 => .int
  | 6 => .int
  | 7 => .int
  | _ => .int
theorem nE : ∀ a, a < 9 → ∀ b, b < 9 → a ≠ b → (FE a).2.1 ≠ (FE b).2.1 := by decide +kernel
theorem tE_ok : ∀ k, k < 9 → parseFieldDescriptor (FE k).2.2.1 = some (tE k) := by decide +kernel
def RT : String := "RatchetGroup$Tree"
def FT : u_T := fun k => match k with
  | 0 => ("RatchetGroup$Tree", "depth", "I", false)
  | 1 => ("RatchetGroup$Tree", "keys", "[I", true)
  | 2 => ("RatchetGroup$Tree", "born", "[I", true)
  | _ => ("RatchetGroup$Tree", "unmerged", "[I", true)
def tT : Nat → FieldType := fun k => match k with
  | 0 => .int
  | 1 => (.array .int)
  | 2 => (.array .int)
  | _ => (.array .int)
theorem nT : ∀ a, a < 4 → ∀ b, b < 4 → a ≠ b → (FT a).2.1 ≠ (FT b).2.1 := by decide +kernel
theorem tT_ok : ∀ k, k < 4 → parseFieldDescriptor (FT k).2.2.1 = some (tT k) := by decide +kernel
def RK : String := "RatchetGroup$KeyPackage"
def FK : u_T := fun k => match k with
  | 0 => ("RatchetGroup$KeyPackage", "member", "I", true)
  | 1 => ("RatchetGroup$KeyPackage", "firstKey", "I", true)
  | 2 => ("RatchetGroup$KeyPackage", "leafKey", "I", true)
  | 3 => ("RatchetGroup$KeyPackage", "epoch", "I", false)
  | 4 => ("RatchetGroup$KeyPackage", "leaf", "I", false)
  | _ => ("RatchetGroup$KeyPackage", "joined", "Z", false)
def tK : Nat → FieldType := fun k => match k with
  | 0 => .int
  | 1 => .int
  | 2 => .int
  | 3 => .int
  | 4 => .int
  | _ => .boolean
theorem nK : ∀ a, a < 6 → ∀ b, b < 6 → a ≠ b → (FK a).2.1 ≠ (FK b).2.1 := by decide +kernel
theorem tK_ok : ∀ k, k < 6 → parseFieldDescriptor (FK k).2.2.1 = some (tK k) := by decide +kernel
def RP : String := "RatchetGroup$Proposal"
def FP : u_T := fun k => match k with
  | 0 => ("RatchetGroup$Proposal", "kind", "I", true)
  | 1 => ("RatchetGroup$Proposal", "about", "I", true)
  | _ => ("RatchetGroup$Proposal", "key", "I", true)
def tP : Nat → FieldType := fun k => match k with
  | 0 => .int
  | 1 => .int
  | _ => .int
theorem nP : ∀ a, a < 3 → ∀ b, b < 3 → a ≠ b → (FP a).2.1 ≠ (FP b).2.1 := by decide +kernel
theorem tP_ok : ∀ k, k < 3 → parseFieldDescriptor (FP k).2.2.1 = some (tP k) := by decide +kernel
def RR : String := "RatchetGroupModel"
def FR : u_T := fun k => match k with
  | 0 => ("RatchetGroupModel", "thrown", "I", false)
  | 1 => ("RatchetGroupModel", "secrets", "I", false)
  | 2 => ("RatchetGroupModel", "kinds", "[I", true)
  | 3 => ("RatchetGroupModel", "firsts", "[I", true)
  | 4 => ("RatchetGroupModel", "seconds", "[I", true)
  | 5 => ("RatchetGroupModel", "taken", "[Z", true)
  | 6 => ("RatchetGroupModel", "known", "[Z", true)
  | 7 => ("RatchetGroupModel", "encrypted", "I", false)
  | 8 => ("RatchetGroupModel", "encryptedFor", "[I", true)
  | 9 => ("RatchetGroupModel", "encryptedWhat", "[I", true)
  | 10 => ("RatchetGroupModel", "encryptedIn", "[I", true)
  | 11 => ("RatchetGroupModel", "encryptedAt", "[I", true)
  | 12 => ("RatchetGroupModel", "epochs", "I", false)
  | 13 => ("RatchetGroupModel", "depth", "[I", true)
  | 14 => ("RatchetGroupModel", "secret", "[I", true)
  | 15 => ("RatchetGroupModel", "committer", "[I", true)
  | 16 => ("RatchetGroupModel", "counting", "[I", true)
  | 17 => ("RatchetGroupModel", "removed", "[I", true)
  | 18 => ("RatchetGroupModel", "updated", "[I", true)
  | 19 => ("RatchetGroupModel", "added", "[I", true)
  | 20 => ("RatchetGroupModel", "sent", "[I", true)
  | 21 => ("RatchetGroupModel", "withPath", "[Z", true)
  | 22 => ("RatchetGroupModel", "keys", "[I", true)
  | 23 => ("RatchetGroupModel", "unmerged", "[I", true)
  | 24 => ("RatchetGroupModel", "since", "[I", true)
  | 25 => ("RatchetGroupModel", "paths", "[I", true)
  | 26 => ("RatchetGroupModel", "owners", "[I", true)
  | 27 => ("RatchetGroupModel", "at", "[I", true)
  | 28 => ("RatchetGroupModel", "leaf", "[I", true)
  | 29 => ("RatchetGroupModel", "leafKey", "[I", true)
  | 30 => ("RatchetGroupModel", "stuck", "[I", true)
  | 31 => ("RatchetGroupModel", "updates", "[I", true)
  | 32 => ("RatchetGroupModel", "has", "[Z", true)
  | 33 => ("RatchetGroupModel", "nodeKeys", "[I", true)
  | 34 => ("RatchetGroupModel", "updateKeys", "[I", true)
  | 35 => ("RatchetGroupModel", "packages", "I", false)
  | 36 => ("RatchetGroupModel", "packageOf", "[I", true)
  | 37 => ("RatchetGroupModel", "firstKey", "[I", true)
  | 38 => ("RatchetGroupModel", "secondKey", "[I", true)
  | 39 => ("RatchetGroupModel", "usedIn", "[I", true)
  | 40 => ("RatchetGroupModel", "usedAt", "[I", true)
  | 41 => ("RatchetGroupModel", "joined", "[Z", true)
  | 42 => ("RatchetGroupModel", "waiting", "I", false)
  | 43 => ("RatchetGroupModel", "proposed", "[I", true)
  | 44 => ("RatchetGroupModel", "proposer", "[I", true)
  | 45 => ("RatchetGroupModel", "proposal", "[I", true)
  | 46 => ("RatchetGroupModel", "held", "I", false)
  | 47 => ("RatchetGroupModel", "holding", "[I", true)
  | 48 => ("RatchetGroupModel", "resolved", "I", false)
  | 49 => ("RatchetGroupModel", "resolution", "[I", true)
  | 50 => ("RatchetGroupModel", "open", "[I", true)
  | _ => ("RatchetGroupModel", "newKeys", "[I", true)
def tR : Nat → FieldType := fun k => match k with
  | 0 => .int
  | 1 => .int
  | 2 => (.array .int)
  | 3 => (.array .int)
  | 4 => (.array .int)
  | 5 => (.array .boolean)
  | 6 => (.array .boolean)
  | 7 => .int
  | 8 => (.array .int)
  | 9 => (.array .int)
  | 10 => (.array .int)
  | 11 => (.array .int)
  | 12 => .int
  | 13 => (.array .int)
  | 14 => (.array .int)
  | 15 => (.array .int)
  | 16 => (.array .int)
  | 17 => (.array .int)
  | 18 => (.array .int)
  | 19 => (.array .int)
  | 20 => (.array .int)
  | 21 => (.array .boolean)
  | 22 => (.array .int)
  | 23 => (.array .int)
  | 24 => (.array .int)
  | 25 => (.array .int)
  | 26 => (.array .int)
  | 27 => (.array .int)
  | 28 => (.array .int)
  | 29 => (.array .int)
  | 30 => (.array .int)
  | 31 => (.array .int)
  | 32 => (.array .boolean)
  | 33 => (.array .int)
  | 34 => (.array .int)
  | 35 => .int
  | 36 => (.array .int)
  | 37 => (.array .int)
  | 38 => (.array .int)
  | 39 => (.array .int)
  | 40 => (.array .int)
  | 41 => (.array .boolean)
  | 42 => .int
  | 43 => (.array .int)
  | 44 => (.array .int)
  | 45 => (.array .int)
  | 46 => .int
  | 47 => (.array .int)
  | 48 => .int
  | 49 => (.array .int)
  | 50 => (.array .int)
  | _ => (.array .int)
theorem nR : ∀ a, a < 52 → ∀ b, b < 52 → a ≠ b → (FR a).2.1 ≠ (FR b).2.1 := by decide +kernel
theorem tR_ok : ∀ k, k < 52 → parseFieldDescriptor (FR k).2.2.1 = some (tR k) := by decide +kernel
def gh_cl : List vw_C := [(RG, FG, 10), (RS, FS, 6), (RB, FB, 7), (RE, FE, 9), (RT, FT, 4), (RK, FK, 6), (RP, FP, 3), (RR, FR, 52)]
def gh_ty : List FieldType := [.int, .byte, .boolean, .long, (.object "RatchetGroup$Member"), (.object "RatchetGroup$Epoch"), (.object "RatchetGroup$KeyPackage"), (.object "RatchetGroup$Proposal")]
def gh_nw : List Cond := [
  (.arrayOver (.object "RatchetGroup$Member")),
  (.arrayOver (.object "RatchetGroup$Epoch")),
  (.arrayOver (.object "RatchetGroup$KeyPackage")),
  (.arrayOver (.object "RatchetGroup$Proposal")),
  (.methodLinkNest "RatchetGroup$Member" 50 ⟨"RatchetGroup", "leafNode", "(I)I"⟩ "RatchetGroup"),
  (.methodLinkNest "RatchetGroup$Tree" 55 ⟨"RatchetGroup", "bit", "(I)I"⟩ "RatchetGroup"),
  (.methodLinkNest "RatchetGroup$Tree" 64 ⟨"RatchetGroup", "leafNodes", "(I)I"⟩ "RatchetGroup"),
  (.methodLinkNest "RatchetGroup$Tree" 43 ⟨"RatchetGroup", "pathNode", "(II)I"⟩ "RatchetGroup"),
  (.methodLinkNest "RatchetGroup$Tree" 61 ⟨"RatchetGroup", "leafNode", "(I)I"⟩ "RatchetGroup"),
  (.methodLinkNest "RatchetGroup$Member" 86 ⟨"RatchetGroup", "pathNode", "(II)I"⟩ "RatchetGroup"),
  (.methodLinkNest "RatchetGroup$Epoch" 33 ⟨"RatchetGroup", "pathNode", "(II)I"⟩ "RatchetGroup"),
  (.methodLinkNest "RatchetGroup$Epoch" 37 ⟨"RatchetGroup", "bit", "(I)I"⟩ "RatchetGroup"),
  (.methodLinkNest "RatchetGroup$Member" 73 ⟨"RatchetGroup", "bit", "(I)I"⟩ "RatchetGroup"),
  (.methodLinkNest "RatchetGroup$Member" 96 ⟨"RatchetGroup", "leafNodes", "(I)I"⟩ "RatchetGroup")]
def gh_nest (w : Cond) : Bool := match w with
  | .fieldLinkNest _ _ _ _ _ _ => true
  | .methodLinkNest _ _ _ _ => true
  | .arrayOver (.object _) => true
  | _ => false
theorem gh_nw_ok : ∀ w ∈ gh_nw, gh_nest w = true := by decide +kernel
end
section
/-! GHOST HEAPS. A key (a kind, a number) has a cell: its address and what it holds. gh_R: the machine's heap holds the ghost heap. gh_W: the machine, at pc with these locals and this stack, over a heap that holds g, with cb cells and sb slots still to be made, comes to its end. gh_C: a method's contract. -/
abbrev gh_K : Type := Nat × Nat
abbrev gh_E : Type := (Nat × vp_A) ⊕ (Nat × List Value)
abbrev gh_H : Type := gh_K → Option (Nat × gh_E)
abbrev gh_D : Type := va_G × (Nat → ClassId) × Heap
abbrev gh_M : Type := MethodName × ByteArray × Nat × Option FieldType
abbrev gh_Z : Type := Program × Env × Room × State × MethodId × Array Value × List Frame × Method × Code × Nat × (State → Prop)
def gh_e (d : gh_D) (x : gh_E) : va_E := match x with
  | .inl q => .inl (d.2.1 q.1, q.2)
  | .inr o => .inr o
def gh_u (g : gh_H) (k : gh_K) (v : Nat × gh_E) : gh_H := fun q => if q = k then some v else g q
theorem gh_us {g : gh_H} {k : gh_K} {v : Nat × gh_E} : gh_u g k v k = some v := if_pos rfl
theorem gh_un {g : gh_H} {k q : gh_K} {v : Nat × gh_E} (h : q ≠ k) : gh_u g k v q = g q := if_neg h
theorem gh_uu {g : gh_H} {k : gh_K} {v w : Nat × gh_E} : gh_u (gh_u g k v) k w = gh_u g k w := by
  funext q
  by_cases h : q = k
  · subst h; simp [gh_u]
  · simp [gh_u, h]
def gh_T : List Cond := lw_tbl.filter goodWord
theorem gh_in {w : Cond} (i : Nat) (h : lw_tbl[i]? = some w) (hg : goodWord w = true) : w ∈ gh_T := List.mem_filter.mpr ⟨List.mem_of_getElem? h, hg⟩
theorem gh_T_good : ∀ w ∈ gh_T, (w.onTables && w.keeps) = true ∨ ∃ ty, w = .arrayClass ty := fun w h => good_of_word (List.mem_filter.mp h).2
def gh_Kn (d : gh_D) (U : State) : Prop := va_K d.1 gh_cl [] U ∧ (∀ (k : Nat) (ty : FieldType), gh_ty[k]? = some ty → ArrOfT U (d.2.1 k) ty ∧ va_RA U (d.2.1 k) ty) ∧ ∀ w ∈ gh_nw, va_Nw w U
theorem gh_nest_warm {w : Cond} (h : gh_nest w = true) {s U : State} (hW : s.WarmedH U.vm) (hZ : va_Nw w s) : va_Nw w U := by
  unfold gh_nest at h
  split at h
  · exact va_Nw.warmF hW hZ
  · exact va_Nw.warmM hW hZ
  · exact va_AO.moved hW.alike hZ
  · cases h
theorem gh_Kn.warm {d : gh_D} {s U : State} (hW : s.WarmedH U.vm) (h : gh_Kn d s) : gh_Kn d U :=
  ⟨va_K.moved hW.alike h.1, fun k ty hk => ⟨arrOfT_moved hW.alike (h.2.1 k ty hk).1, (h.2.1 k ty hk).2.moved hW.alike⟩, fun w hw => gh_nest_warm (gh_nw_ok w hw) hW (h.2.2 w hw)⟩
theorem gh_nest_same {w : Cond} (h : gh_nest w = true) {s U : State} (hv : s.vm = U.vm) (hZ : va_Nw w s) : va_Nw w U := by
  unfold gh_nest at h
  split at h
  · exact va_Nw.same rfl hv hZ
  · exact va_Nw.same rfl hv hZ
  · exact va_AO.moved (hv ▸ Vm.Alike.refl s.vm) hZ
  · cases h
theorem gh_Kn.calling {d : gh_D} {U : State} {f : JFrame} {mk : MethodId} {a : Array Value} (h : gh_Kn d U) : gh_Kn d (U.calling f mk a) :=
  ⟨va_K.moved (u := U) (U := U.calling f mk a) (Vm.Alike.refl U.vm) h.1, fun k ty hk => ⟨arrOfT_moved (u := U) (E := U.calling f mk a) (Vm.Alike.refl U.vm) (h.2.1 k ty hk).1, va_RA.moved (u := U) (U := U.calling f mk a) (Vm.Alike.refl U.vm) (h.2.1 k ty hk).2⟩, fun w hw => gh_nest_same (s := U) (U := U.calling f mk a) (gh_nw_ok w hw) rfl (h.2.2 w hw)⟩
def gh_R (d : gh_D) (g : gh_H) (H : Heap) : Prop := d.2.2.size ≤ H.size ∧ (∀ q : Nat, q < d.2.2.size → H[q]? = d.2.2[q]?) ∧ (∀ (k : gh_K) (a : Nat) (x : gh_E), g k = some (a, x) → va_at d.1 gh_cl (a, gh_e d x) H ∧ d.2.2.size ≤ a) ∧ ∀ (k1 k2 : gh_K) (a : Nat) (x1 x2 : gh_E), g k1 = some (a, x1) → g k2 = some (a, x2) → k1 = k2
def gh_L (la : Array Slot) (nL : Nat) (ls : List (Option Value)) : Prop := la.size = nL ∧ lv_wf la ∧ ls.length = nL ∧ ∀ (i : Nat) (v : Value), ls[i]? = some (some v) → v.category = 1 ∧ la[i]? = some (.val v)
theorem gh_L.at {la : Array Slot} {nL : Nat} {ls : List (Option Value)} (h : gh_L la nL ls) {i : Nat} {v : Value} (hi : ls[i]? = some (some v)) : la[i]? = some (.val v) := (h.2.2.2 i v hi).2
theorem gh_L.store {la : Array Slot} {nL : Nat} {ls : List (Option Value)} (h : gh_L la nL ls) {i : Nat} {v : Value} (hi : i < ls.length) (hc : v.category = 1) : ∃ la', storeLocals la i v = some la' ∧ gh_L la' nL (ls.set i (some v)) := by
  obtain ⟨h1, h2, h3, h4⟩ := h
  have hh : lv_has la nL ((List.range nL).filterMap (fun j => match ls[j]? with | some (some w) => some (j, w) | _ => none)) := by
    refine ⟨h1, h2, fun q hq => ?_⟩
    obtain ⟨j, -, hj⟩ := List.mem_filterMap.mp hq
    split at hj
    · rename_i w hw
      cases hj
      exact (h4 _ _ hw).2
    · cases hj
  obtain ⟨la', e', k1, k2, k3⟩ := lv_store1 (i := i) (v := v) hh (by omega) hc
  refine ⟨la', e', k1, k2, by simp [h3], fun j w hj => ?_⟩
  by_cases hji : j = i
  · subst hji
    rw [List.getElem?_set_self hi] at hj
    cases hj
    exact ⟨hc, k3 _ List.mem_cons_self⟩
  · rw [List.getElem?_set_ne (fun q => hji q.symm)] at hj
    refine ⟨(h4 j w hj).1, k3 (j, w) (List.mem_cons_of_mem _ (List.mem_filter.mpr ⟨List.mem_filterMap.mpr ⟨j, ?_, by rw [hj]⟩, ?_⟩))⟩
    · rw [List.mem_range, ← h3]
      exact (List.getElem?_eq_some_iff.mp hj).1
    · have := (h4 j w hj).1
      simp [hji, this]
theorem gh_L.forget {la : Array Slot} {nL : Nat} {ls ls' : List (Option Value)} (h : gh_L la nL ls) (hl : ls'.length = ls.length) (hf : ∀ (i : Nat) (v : Value), ls'[i]? = some (some v) → ls[i]? = some (some v)) : gh_L la nL ls' := ⟨h.1, h.2.1, hl.trans h.2.2.1, fun i v hi => h.2.2.2 i v (hf i v hi)⟩
def gh_W (l : Launch) (d : gh_D) (z : gh_Z) (pc : Nat) (ls : List (Option Value)) (st : List Value) (g : gh_H) (cb sb : Nat) : Prop := match z with
  | (p, e, R, s, m, args, below, meth, c, nL, Q) => ∀ (H : Heap) (locs : List Loc) (la : Array Slot) (cells slots : Nat), gh_R d g H → (∀ q ∈ locs, d.2.2.size ≤ q.base) → gh_L la nL ls → cells + cb ≤ R.cells → slots + sb ≤ R.slots → W p l e R s m args below meth c H locs cells slots Q (F0 m pc la st)
def gh_X (d : gh_D) (z : gh_Z) (mm : gh_M) (rm : Room) : Prop := match z with
  | (p, _, R, s, m, args, _, meth, c, nL, _) => CallFix p m c mm.2.1 nL s args gh_T mm.1.cls ∧ meth.sig.returnType = mm.2.2.2 ∧ meth.locks = false ∧ gh_Kn d s ∧ R = rm ∧ meth.name = mm.1.name
def gh_P (d : gh_D) (As : List Value) (g : gh_H) : Array Value → State → Prop := fun a U => a = As.toArray ∧ gh_R d g U.heap ∧ gh_Kn d U
def gh_Qc (d : gh_D) (Po : Option Value → gh_H → Prop) : Array Value → State → Outcome → State → Prop := fun _ _ o t => ∃ (v : Option Value) (g : gh_H), o = .returned v ∧ Po v g ∧ gh_R d g t.heap
def gh_Q (d : gh_D) (z : gh_Z) (Po : Option Value → gh_H → Prop) : Prop := match z with
  | (_, _, R, s, _, args, below, _, _, _, Q) => Q = MQ below (gh_Qc d Po) args s R.cells R.slots (fun q => d.2.2.size ≤ q)
def gh_C (l : Launch) (d : gh_D) (mm : gh_M) (rm : Room) (As : List Value) (g : gh_H) (Po : Option Value → gh_H → Prop) : Prop :=
  Met l mm.1 (.code mm.1 mm.2.1 mm.2.2.1 mm.2.2.2 :: gh_T) rm (gh_P d As g) (gh_Qc d Po) rm.cells rm.slots (fun q => d.2.2.size ≤ q)
theorem gh_P.blind {d : gh_D} {As : List Value} {g : gh_H} : FrameBlind (gh_P d As g) := fun _ _ _ _ q => ⟨q.1, q.2.1, q.2.2.calling⟩
theorem gh_sl : ∀ (As : List Value), (∀ v ∈ As, v.category = 1) → lg_sl As = As.map Slot.val := by
  intro As
  induction As with
  | nil => intro _; rfl
  | cons v As ih =>
    intro h
    have h1 : v.category = 1 := h v List.mem_cons_self
    have h2 := ih (fun w hw => h w (List.mem_cons_of_mem _ hw))
    have h3 : lg_sl (v :: As) = (if v.category = 2 then [Slot.val v, .second] else [.val v]) ++ lg_sl As := by simp [lg_sl]
    rw [h3, h1, h2]
    simp
/-- a contract out of the walk of its body -/
theorem gh_of {l : Launch} {d : gh_D} {mm : gh_M} {rm : Room} {As : List Value} {g : gh_H} {Po : Option Value → gh_H → Prop} (ls : List (Option Value)) (hp : plainName mm.1.cls = true) (hls : ls = As.map some ++ List.replicate (mm.2.2.1 - As.length) none) (hn : As.length ≤ mm.2.2.1) (hc : ∀ v ∈ As, v.category = 1)
    (body : ∀ z : gh_Z, gh_X d z mm rm → gh_Q d z Po → gh_W l d z 0 ls [] g rm.cells rm.slots) : gh_C l d mm rm As g Po := by
  refine Met.ofW (cc := mm.2.1) (maxL := mm.2.2.1) (ret := mm.2.2.2) hp rfl ?_
  intro p e s m args below meth c s₁ B hml hv
  obtain ⟨rfl, hR, hK⟩ := hv
  have hts := atoms_spec (ws := .code mm.1 mm.2.1 mm.2.2.1 mm.2.2.2 :: gh_T) B.pre
  have hown : s.vm.findClass mm.1.cls = some m.cls := findClass_of_methodNamed B.named
  have hin : meth.name = mm.1.name := (name_of_methodNamed B.named B.method).1
  have key := body (p, e, rm, s, m, As.toArray, below, meth, c, mm.2.2.1, MQ below (gh_Qc d Po) As.toArray s rm.cells rm.slots (fun q => d.2.2.size ≤ q)) ⟨⟨B.exec, B.bytes, hml, hown, fun w hw => hts w (List.mem_cons_of_mem _ hw)⟩, B.returns, B.notSynchronized, hK, rfl, hin⟩ rfl
  have hle : (lg_sl As).length ≤ mm.2.2.1 := by rw [gh_sl As hc, List.length_map]; exact hn
  have hl := lv_entry As hle
  rw [lg_entry_eq]
  refine key s.heap [] _ 0 0 hR (fun q h => by cases h) ⟨hl.1, hl.2.1, by rw [hls]; simp; omega, fun i v hi => ?_⟩ (by simp) (by simp)
  rw [hls] at hi
  have hlt : i < As.length := by
    rcases Nat.lt_or_ge i As.length with h | h
    · exact h
    · rw [List.getElem?_append_right (by simpa using h)] at hi
      rw [List.getElem?_replicate] at hi
      split at hi <;> simp at hi
  rw [List.getElem?_append_left (by simpa using hlt)] at hi
  simp at hi
  have hv : v ∈ As := List.mem_of_getElem? hi
  refine ⟨hc v hv, ?_⟩
  obtain ⟨h5, h6⟩ := List.getElem?_eq_some_iff.mp hi
  rw [gh_sl As hc]
  simp [List.getElem?_append, hlt, h6]

section GH
variable {l : Launch} {d : gh_D} {z : gh_Z} {mm : gh_M} {rm : Room} {pc : Nat} {ls : List (Option Value)} {rest : List Value} {g : gh_H} {cb sb : Nat}
theorem gh_iconst (C : gh_X d z mm rm) {n : Int} (v : Int32) (hd : decode mm.2.1 pc = .ok (.iconst n, 1)) (hv : Int32.ofInt n = v) (k : gh_W l d z (pc + 1) ls (.int v :: rest) g cb sb) : gh_W l d z pc ls rest g cb sb := by
  obtain ⟨p, e, R, s, m, args, below, meth, c, nL, Q⟩ := z
  exact fun H locs la ce sl a b h i j => lv_iconst C.1.1 C.1.2.1 hd hv (k H locs la ce sl a b h i j)
theorem gh_bipush (C : gh_X d z mm rm) {n : Int} (v : Int32) (hd : decode mm.2.1 pc = .ok (.bipush n, 2)) (hv : (Int8.ofInt n).toInt32 = v) (k : gh_W l d z (pc + 2) ls (.int v :: rest) g cb sb) : gh_W l d z pc ls rest g cb sb := by
  obtain ⟨p, e, R, s, m, args, below, meth, c, nL, Q⟩ := z
  exact fun H locs la ce sl a b h i j => lv_bipush C.1.1 C.1.2.1 hd hv (k H locs la ce sl a b h i j)
theorem gh_sipush (C : gh_X d z mm rm) {n : Int} (v : Int32) (hd : decode mm.2.1 pc = .ok (.sipush n, 3)) (hv : (Int16.ofInt n).toInt32 = v) (k : gh_W l d z (pc + 3) ls (.int v :: rest) g cb sb) : gh_W l d z pc ls rest g cb sb := by
  obtain ⟨p, e, R, s, m, args, below, meth, c, nL, Q⟩ := z
  exact fun H locs la ce sl a b h i j => lv_sipush C.1.1 C.1.2.1 hd hv (k H locs la ce sl a b h i j)
theorem gh_null (C : gh_X d z mm rm)  (hd : decode mm.2.1 pc = .ok (.aconst_null, 1))  (k : gh_W l d z (pc + 1) ls (.null :: rest) g cb sb) : gh_W l d z pc ls rest g cb sb := by
  obtain ⟨p, e, R, s, m, args, below, meth, c, nL, Q⟩ := z
  exact fun H locs la ce sl a b h i j => lv_null C.1.1 C.1.2.1 hd  (k H locs la ce sl a b h i j)
theorem gh_iadd (C : gh_X d z mm rm) {x y : Int32} (hd : decode mm.2.1 pc = .ok (.iadd, 1))  (k : gh_W l d z (pc + 1) ls (.int (x + y) :: rest) g cb sb) : gh_W l d z pc ls (.int y :: .int x :: rest) g cb sb := by
  obtain ⟨p, e, R, s, m, args, below, meth, c, nL, Q⟩ := z
  exact fun H locs la ce sl a b h i j => lv_iadd C.1.1 C.1.2.1 hd  (k H locs la ce sl a b h i j)
theorem gh_isub (C : gh_X d z mm rm) {x y : Int32} (hd : decode mm.2.1 pc = .ok (.isub, 1))  (k : gh_W l d z (pc + 1) ls (.int (x - y) :: rest) g cb sb) : gh_W l d z pc ls (.int y :: .int x :: rest) g cb sb := by
  obtain ⟨p, e, R, s, m, args, below, meth, c, nL, Q⟩ := z
  exact fun H locs la ce sl a b h i j => lv_isub C.1.1 C.1.2.1 hd  (k H locs la ce sl a b h i j)
theorem gh_imul (C : gh_X d z mm rm) {x y : Int32} (hd : decode mm.2.1 pc = .ok (.imul, 1))  (k : gh_W l d z (pc + 1) ls (.int (x * y) :: rest) g cb sb) : gh_W l d z pc ls (.int y :: .int x :: rest) g cb sb := by
  obtain ⟨p, e, R, s, m, args, below, meth, c, nL, Q⟩ := z
  exact fun H locs la ce sl a b h i j => lv_imul C.1.1 C.1.2.1 hd  (k H locs la ce sl a b h i j)
theorem gh_iand (C : gh_X d z mm rm) {x y : Int32} (hd : decode mm.2.1 pc = .ok (.iand, 1))  (k : gh_W l d z (pc + 1) ls (.int (x &&& y) :: rest) g cb sb) : gh_W l d z pc ls (.int y :: .int x :: rest) g cb sb := by
  obtain ⟨p, e, R, s, m, args, below, meth, c, nL, Q⟩ := z
  exact fun H locs la ce sl a b h i j => lv_iand C.1.1 C.1.2.1 hd  (k H locs la ce sl a b h i j)
theorem gh_ior (C : gh_X d z mm rm) {x y : Int32} (hd : decode mm.2.1 pc = .ok (.ior, 1))  (k : gh_W l d z (pc + 1) ls (.int (x ||| y) :: rest) g cb sb) : gh_W l d z pc ls (.int y :: .int x :: rest) g cb sb := by
  obtain ⟨p, e, R, s, m, args, below, meth, c, nL, Q⟩ := z
  exact fun H locs la ce sl a b h i j => lv_ior C.1.1 C.1.2.1 hd  (k H locs la ce sl a b h i j)
theorem gh_ixor (C : gh_X d z mm rm) {x y : Int32} (hd : decode mm.2.1 pc = .ok (.ixor, 1))  (k : gh_W l d z (pc + 1) ls (.int (x ^^^ y) :: rest) g cb sb) : gh_W l d z pc ls (.int y :: .int x :: rest) g cb sb := by
  obtain ⟨p, e, R, s, m, args, below, meth, c, nL, Q⟩ := z
  exact fun H locs la ce sl a b h i j => lv_ixor C.1.1 C.1.2.1 hd  (k H locs la ce sl a b h i j)
theorem gh_ishl (C : gh_X d z mm rm) {x y : Int32} (hd : decode mm.2.1 pc = .ok (.ishl, 1))  (k : gh_W l d z (pc + 1) ls (.int (x <<< (y &&& 31)) :: rest) g cb sb) : gh_W l d z pc ls (.int y :: .int x :: rest) g cb sb := by
  obtain ⟨p, e, R, s, m, args, below, meth, c, nL, Q⟩ := z
  exact fun H locs la ce sl a b h i j => lv_ishl C.1.1 C.1.2.1 hd  (k H locs la ce sl a b h i j)
theorem gh_ishr (C : gh_X d z mm rm) {x y : Int32} (hd : decode mm.2.1 pc = .ok (.ishr, 1))  (k : gh_W l d z (pc + 1) ls (.int (x >>> (y &&& 31)) :: rest) g cb sb) : gh_W l d z pc ls (.int y :: .int x :: rest) g cb sb := by
  obtain ⟨p, e, R, s, m, args, below, meth, c, nL, Q⟩ := z
  exact fun H locs la ce sl a b h i j => lv_ishr C.1.1 C.1.2.1 hd  (k H locs la ce sl a b h i j)
theorem gh_ineg (C : gh_X d z mm rm) {x : Int32} (hd : decode mm.2.1 pc = .ok (.ineg, 1))  (k : gh_W l d z (pc + 1) ls (.int (-x) :: rest) g cb sb) : gh_W l d z pc ls (.int x :: rest) g cb sb := by
  obtain ⟨p, e, R, s, m, args, below, meth, c, nL, Q⟩ := z
  exact fun H locs la ce sl a b h i j => lv_ineg C.1.1 C.1.2.1 hd  (k H locs la ce sl a b h i j)
theorem gh_i2b (C : gh_X d z mm rm) {x : Int32} (hd : decode mm.2.1 pc = .ok (.i2b, 1))  (k : gh_W l d z (pc + 1) ls (.int x.toInt8.toInt32 :: rest) g cb sb) : gh_W l d z pc ls (.int x :: rest) g cb sb := by
  obtain ⟨p, e, R, s, m, args, below, meth, c, nL, Q⟩ := z
  exact fun H locs la ce sl a b h i j => lv_i2b C.1.1 C.1.2.1 hd rfl (k H locs la ce sl a b h i j)
theorem gh_i2l (C : gh_X d z mm rm) {x : Int32} (hd : decode mm.2.1 pc = .ok (.i2l, 1))  (k : gh_W l d z (pc + 1) ls (.long x.toInt64 :: rest) g cb sb) : gh_W l d z pc ls (.int x :: rest) g cb sb := by
  obtain ⟨p, e, R, s, m, args, below, meth, c, nL, Q⟩ := z
  exact fun H locs la ce sl a b h i j => lv_i2l C.1.1 C.1.2.1 hd rfl (k H locs la ce sl a b h i j)
theorem gh_dup (C : gh_X d z mm rm) {va : Value} (hd : decode mm.2.1 pc = .ok (.dup, 1)) (hva : va.category = 1) (k : gh_W l d z (pc + 1) ls (va :: va :: rest) g cb sb) : gh_W l d z pc ls (va :: rest) g cb sb := by
  obtain ⟨p, e, R, s, m, args, below, meth, c, nL, Q⟩ := z
  exact fun H locs la ce sl a b h i j => lv_dup C.1.1 C.1.2.1 hd hva (k H locs la ce sl a b h i j)
theorem gh_pop (C : gh_X d z mm rm) {va : Value} (hd : decode mm.2.1 pc = .ok (.pop, 1)) (hva : va.category = 1) (k : gh_W l d z (pc + 1) ls rest g cb sb) : gh_W l d z pc ls (va :: rest) g cb sb := by
  obtain ⟨p, e, R, s, m, args, below, meth, c, nL, Q⟩ := z
  exact fun H locs la ce sl a b h i j => lv_pop C.1.1 C.1.2.1 hd hva (k H locs la ce sl a b h i j)
theorem gh_dup_x1 (C : gh_X d z mm rm) {va vb : Value} (hd : decode mm.2.1 pc = .ok (.dup_x1, 1)) (hva : va.category = 1) (hvb : vb.category = 1) (k : gh_W l d z (pc + 1) ls (va :: vb :: va :: rest) g cb sb) : gh_W l d z pc ls (va :: vb :: rest) g cb sb := by
  obtain ⟨p, e, R, s, m, args, below, meth, c, nL, Q⟩ := z
  exact fun H locs la ce sl a b h i j => lv_dup_x1 C.1.1 C.1.2.1 hd hva hvb (k H locs la ce sl a b h i j)
theorem gh_dup_x2 (C : gh_X d z mm rm) {va vb vd : Value} (hd : decode mm.2.1 pc = .ok (.dup_x2, 1)) (hva : va.category = 1) (hvb : vb.category = 1) (hvd : vd.category = 1) (k : gh_W l d z (pc + 1) ls (va :: vb :: vd :: va :: rest) g cb sb) : gh_W l d z pc ls (va :: vb :: vd :: rest) g cb sb := by
  obtain ⟨p, e, R, s, m, args, below, meth, c, nL, Q⟩ := z
  exact fun H locs la ce sl a b h i j => lv_dup_x2 C.1.1 C.1.2.1 hd hva hvb hvd (k H locs la ce sl a b h i j)
theorem gh_dup2 (C : gh_X d z mm rm) {va vb : Value} (hd : decode mm.2.1 pc = .ok (.dup2, 1)) (hva : va.category = 1) (hvb : vb.category = 1) (k : gh_W l d z (pc + 1) ls (va :: vb :: va :: vb :: rest) g cb sb) : gh_W l d z pc ls (va :: vb :: rest) g cb sb := by
  obtain ⟨p, e, R, s, m, args, below, meth, c, nL, Q⟩ := z
  exact fun H locs la ce sl a b h i j => lv_dup2_11 C.1.1 C.1.2.1 hd hva hvb (k H locs la ce sl a b h i j)
theorem gh_iload_n (C : gh_X d z mm rm) {k : Fin 4} {x : Int32} (hd : decode mm.2.1 pc = .ok (.iload_n k, 1)) (hi : ls[(k : Nat)]? = some (some (.int x))) (kk : gh_W l d z (pc + 1) ls (.int x :: rest) g cb sb) : gh_W l d z pc ls rest g cb sb := by
  obtain ⟨p, e, R, s, m, args, below, meth, c, nL, Q⟩ := z
  exact fun H locs la ce sl a b h i j => lv_iload_n C.1.1 C.1.2.1 hd rfl (h.at hi) (kk H locs la ce sl a b h i j)
theorem gh_iload (C : gh_X d z mm rm) {k : Nat} {x : Int32} (hd : decode mm.2.1 pc = .ok (.iload k, 2)) (hi : ls[k]? = some (some (.int x))) (kk : gh_W l d z (pc + 2) ls (.int x :: rest) g cb sb) : gh_W l d z pc ls rest g cb sb := by
  obtain ⟨p, e, R, s, m, args, below, meth, c, nL, Q⟩ := z
  exact fun H locs la ce sl a b h i j => lv_iload C.1.1 C.1.2.1 hd (h.at hi) (kk H locs la ce sl a b h i j)
theorem gh_aload_n (C : gh_X d z mm rm) {k : Fin 4} {x : Nat} (hd : decode mm.2.1 pc = .ok (.aload_n k, 1)) (hi : ls[(k : Nat)]? = some (some (.ref x))) (kk : gh_W l d z (pc + 1) ls (.ref x :: rest) g cb sb) : gh_W l d z pc ls rest g cb sb := by
  obtain ⟨p, e, R, s, m, args, below, meth, c, nL, Q⟩ := z
  exact fun H locs la ce sl a b h i j => lv_aload_n C.1.1 C.1.2.1 hd rfl (h.at hi) (kk H locs la ce sl a b h i j)
theorem gh_aload (C : gh_X d z mm rm) {k : Nat} {x : Nat} (hd : decode mm.2.1 pc = .ok (.aload k, 2)) (hi : ls[k]? = some (some (.ref x))) (kk : gh_W l d z (pc + 2) ls (.ref x :: rest) g cb sb) : gh_W l d z pc ls rest g cb sb := by
  obtain ⟨p, e, R, s, m, args, below, meth, c, nL, Q⟩ := z
  exact fun H locs la ce sl a b h i j => lv_aload C.1.1 C.1.2.1 hd (h.at hi) (kk H locs la ce sl a b h i j)
theorem gh_istore_n (C : gh_X d z mm rm) {k : Fin 4} {x : Int32} (ls1 : List (Option Value)) (hd : decode mm.2.1 pc = .ok (.istore_n k, 1)) (hs : ls.set (k : Nat) (some (.int x)) = ls1) (hk : (k : Nat) < ls.length) (kk : gh_W l d z (pc + 1) ls1 rest g cb sb) : gh_W l d z pc ls (.int x :: rest) g cb sb := by
  obtain ⟨p, e, R, s, m, args, below, meth, c, nL, Q⟩ := z
  intro H locs la ce sl a b h i j
  subst hs
  obtain ⟨la1, e1, h1⟩ := h.store (v := .int x) hk rfl
  intro T hT X
  obtain ⟨t, a1, b1⟩ := kk H locs la1 ce sl a b h1 i j T hT X
  refine ⟨t, ?_, b1⟩
  have hx := C.1.1
  have hb := C.1.2.1
  jvm_step X.here [X.here.top, ↓top_set X.here.top, hx, hb, hd, e1]
  exact a1
theorem gh_istore (C : gh_X d z mm rm) {k : Nat} {x : Int32} (ls1 : List (Option Value)) (hd : decode mm.2.1 pc = .ok (.istore k, 2)) (hs : ls.set (k : Nat) (some (.int x)) = ls1) (hk : (k : Nat) < ls.length) (kk : gh_W l d z (pc + 2) ls1 rest g cb sb) : gh_W l d z pc ls (.int x :: rest) g cb sb := by
  obtain ⟨p, e, R, s, m, args, below, meth, c, nL, Q⟩ := z
  intro H locs la ce sl a b h i j
  subst hs
  obtain ⟨la1, e1, h1⟩ := h.store (v := .int x) hk rfl
  intro T hT X
  obtain ⟨t, a1, b1⟩ := kk H locs la1 ce sl a b h1 i j T hT X
  refine ⟨t, ?_, b1⟩
  have hx := C.1.1
  have hb := C.1.2.1
  jvm_step X.here [X.here.top, ↓top_set X.here.top, hx, hb, hd, e1]
  exact a1
theorem gh_astore_n (C : gh_X d z mm rm) {k : Fin 4} {x : Nat} (ls1 : List (Option Value)) (hd : decode mm.2.1 pc = .ok (.astore_n k, 1)) (hs : ls.set (k : Nat) (some (.ref x)) = ls1) (hk : (k : Nat) < ls.length) (kk : gh_W l d z (pc + 1) ls1 rest g cb sb) : gh_W l d z pc ls (.ref x :: rest) g cb sb := by
  obtain ⟨p, e, R, s, m, args, below, meth, c, nL, Q⟩ := z
  intro H locs la ce sl a b h i j
  subst hs
  obtain ⟨la1, e1, h1⟩ := h.store (v := .ref x) hk rfl
  intro T hT X
  obtain ⟨t, a1, b1⟩ := kk H locs la1 ce sl a b h1 i j T hT X
  refine ⟨t, ?_, b1⟩
  have hx := C.1.1
  have hb := C.1.2.1
  jvm_step X.here [X.here.top, ↓top_set X.here.top, hx, hb, hd, e1]
  exact ⟨rfl, a1⟩
theorem gh_astore (C : gh_X d z mm rm) {k : Nat} {x : Nat} (ls1 : List (Option Value)) (hd : decode mm.2.1 pc = .ok (.astore k, 2)) (hs : ls.set (k : Nat) (some (.ref x)) = ls1) (hk : (k : Nat) < ls.length) (kk : gh_W l d z (pc + 2) ls1 rest g cb sb) : gh_W l d z pc ls (.ref x :: rest) g cb sb := by
  obtain ⟨p, e, R, s, m, args, below, meth, c, nL, Q⟩ := z
  intro H locs la ce sl a b h i j
  subst hs
  obtain ⟨la1, e1, h1⟩ := h.store (v := .ref x) hk rfl
  intro T hT X
  obtain ⟨t, a1, b1⟩ := kk H locs la1 ce sl a b h1 i j T hT X
  refine ⟨t, ?_, b1⟩
  have hx := C.1.1
  have hb := C.1.2.1
  jvm_step X.here [X.here.top, ↓top_set X.here.top, hx, hb, hd, e1]
  exact ⟨rfl, a1⟩
theorem gh_iinc (C : gh_X d z mm rm) {k : Nat} {n : Int} {x : Int32} (v : Int32) (ls1 : List (Option Value)) (hd : decode mm.2.1 pc = .ok (.iinc k n, 3)) (hi : ls[k]? = some (some (.int x))) (hv : x + Int32.ofInt n = v) (hs : ls.set k (some (.int v)) = ls1) (kk : gh_W l d z (pc + 3) ls1 rest g cb sb) : gh_W l d z pc ls rest g cb sb := by
  obtain ⟨p, e, R, s, m, args, below, meth, c, nL, Q⟩ := z
  intro H locs la ce sl a b h i j
  subst hs
  subst hv
  obtain ⟨la1, e1, h1⟩ := h.store (v := .int (x + Int32.ofInt n)) (List.getElem?_eq_some_iff.mp hi).1 rfl
  have hg := h.at hi
  intro T hT X
  obtain ⟨t, a1, b1⟩ := kk H locs la1 ce sl a b h1 i j T hT X
  refine ⟨t, ?_, b1⟩
  have hx := C.1.1
  have hb := C.1.2.1
  jvm_step X.here [X.here.top, ↓top_set X.here.top, hx, hb, hd, hg, e1]
  exact a1
theorem gh_if_eq (C : gh_X d z mm rm) {x : Int32} {off : Int} (tgt : Nat) (hd : decode mm.2.1 pc = .ok (.ifCond .eq off, 3)) (ht : (pc : Int) + off = (tgt : Int)) (kt : x = 0 → gh_W l d z tgt ls rest g cb sb) (kf : ¬ x = 0 → gh_W l d z (pc + 3) ls rest g cb sb) : gh_W l d z pc ls (.int x :: rest) g cb sb := by
  obtain ⟨p, e, R, s, m, args, below, meth, c, nL, Q⟩ := z
  exact fun H locs la ce sl a b h i j => lv_if_eq C.1.1 C.1.2.1 hd ht (fun q => kt q H locs la ce sl a b h i j) (fun q => kf q H locs la ce sl a b h i j)
theorem gh_icmp_eq (C : gh_X d z mm rm) {x y : Int32} {off : Int} (tgt : Nat) (hd : decode mm.2.1 pc = .ok (.if_icmp .eq off, 3)) (ht : (pc : Int) + off = (tgt : Int)) (kt : x = y → gh_W l d z tgt ls rest g cb sb) (kf : ¬ x = y → gh_W l d z (pc + 3) ls rest g cb sb) : gh_W l d z pc ls (.int y :: .int x :: rest) g cb sb := by
  obtain ⟨p, e, R, s, m, args, below, meth, c, nL, Q⟩ := z
  exact fun H locs la ce sl a b h i j => lv_icmp_eq C.1.1 C.1.2.1 hd ht (fun q => kt q H locs la ce sl a b h i j) (fun q => kf q H locs la ce sl a b h i j)
theorem gh_if_ne (C : gh_X d z mm rm) {x : Int32} {off : Int} (tgt : Nat) (hd : decode mm.2.1 pc = .ok (.ifCond .ne off, 3)) (ht : (pc : Int) + off = (tgt : Int)) (kt : ¬ x = 0 → gh_W l d z tgt ls rest g cb sb) (kf : x = 0 → gh_W l d z (pc + 3) ls rest g cb sb) : gh_W l d z pc ls (.int x :: rest) g cb sb := by
  obtain ⟨p, e, R, s, m, args, below, meth, c, nL, Q⟩ := z
  exact fun H locs la ce sl a b h i j => lv_if_ne C.1.1 C.1.2.1 hd ht (fun q => kt q H locs la ce sl a b h i j) (fun q => kf q H locs la ce sl a b h i j)
theorem gh_icmp_ne (C : gh_X d z mm rm) {x y : Int32} {off : Int} (tgt : Nat) (hd : decode mm.2.1 pc = .ok (.if_icmp .ne off, 3)) (ht : (pc : Int) + off = (tgt : Int)) (kt : ¬ x = y → gh_W l d z tgt ls rest g cb sb) (kf : x = y → gh_W l d z (pc + 3) ls rest g cb sb) : gh_W l d z pc ls (.int y :: .int x :: rest) g cb sb := by
  obtain ⟨p, e, R, s, m, args, below, meth, c, nL, Q⟩ := z
  exact fun H locs la ce sl a b h i j => lv_icmp_ne C.1.1 C.1.2.1 hd ht (fun q => kt q H locs la ce sl a b h i j) (fun q => kf q H locs la ce sl a b h i j)
theorem gh_if_lt (C : gh_X d z mm rm) {x : Int32} {off : Int} (tgt : Nat) (hd : decode mm.2.1 pc = .ok (.ifCond .lt off, 3)) (ht : (pc : Int) + off = (tgt : Int)) (kt : x < 0 → gh_W l d z tgt ls rest g cb sb) (kf : ¬ x < 0 → gh_W l d z (pc + 3) ls rest g cb sb) : gh_W l d z pc ls (.int x :: rest) g cb sb := by
  obtain ⟨p, e, R, s, m, args, below, meth, c, nL, Q⟩ := z
  exact fun H locs la ce sl a b h i j => lv_if_lt C.1.1 C.1.2.1 hd ht (fun q => kt q H locs la ce sl a b h i j) (fun q => kf q H locs la ce sl a b h i j)
theorem gh_icmp_lt (C : gh_X d z mm rm) {x y : Int32} {off : Int} (tgt : Nat) (hd : decode mm.2.1 pc = .ok (.if_icmp .lt off, 3)) (ht : (pc : Int) + off = (tgt : Int)) (kt : x < y → gh_W l d z tgt ls rest g cb sb) (kf : ¬ x < y → gh_W l d z (pc + 3) ls rest g cb sb) : gh_W l d z pc ls (.int y :: .int x :: rest) g cb sb := by
  obtain ⟨p, e, R, s, m, args, below, meth, c, nL, Q⟩ := z
  exact fun H locs la ce sl a b h i j => lv_icmp_lt C.1.1 C.1.2.1 hd ht (fun q => kt q H locs la ce sl a b h i j) (fun q => kf q H locs la ce sl a b h i j)
theorem gh_if_ge (C : gh_X d z mm rm) {x : Int32} {off : Int} (tgt : Nat) (hd : decode mm.2.1 pc = .ok (.ifCond .ge off, 3)) (ht : (pc : Int) + off = (tgt : Int)) (kt : 0 ≤ x → gh_W l d z tgt ls rest g cb sb) (kf : ¬ 0 ≤ x → gh_W l d z (pc + 3) ls rest g cb sb) : gh_W l d z pc ls (.int x :: rest) g cb sb := by
  obtain ⟨p, e, R, s, m, args, below, meth, c, nL, Q⟩ := z
  exact fun H locs la ce sl a b h i j => lv_if_ge C.1.1 C.1.2.1 hd ht (fun q => kt q H locs la ce sl a b h i j) (fun q => kf q H locs la ce sl a b h i j)
theorem gh_icmp_ge (C : gh_X d z mm rm) {x y : Int32} {off : Int} (tgt : Nat) (hd : decode mm.2.1 pc = .ok (.if_icmp .ge off, 3)) (ht : (pc : Int) + off = (tgt : Int)) (kt : y ≤ x → gh_W l d z tgt ls rest g cb sb) (kf : ¬ y ≤ x → gh_W l d z (pc + 3) ls rest g cb sb) : gh_W l d z pc ls (.int y :: .int x :: rest) g cb sb := by
  obtain ⟨p, e, R, s, m, args, below, meth, c, nL, Q⟩ := z
  exact fun H locs la ce sl a b h i j => lv_icmp_ge C.1.1 C.1.2.1 hd ht (fun q => kt q H locs la ce sl a b h i j) (fun q => kf q H locs la ce sl a b h i j)
theorem gh_if_gt (C : gh_X d z mm rm) {x : Int32} {off : Int} (tgt : Nat) (hd : decode mm.2.1 pc = .ok (.ifCond .gt off, 3)) (ht : (pc : Int) + off = (tgt : Int)) (kt : 0 < x → gh_W l d z tgt ls rest g cb sb) (kf : ¬ 0 < x → gh_W l d z (pc + 3) ls rest g cb sb) : gh_W l d z pc ls (.int x :: rest) g cb sb := by
  obtain ⟨p, e, R, s, m, args, below, meth, c, nL, Q⟩ := z
  exact fun H locs la ce sl a b h i j => lv_if_gt C.1.1 C.1.2.1 hd ht (fun q => kt q H locs la ce sl a b h i j) (fun q => kf q H locs la ce sl a b h i j)
theorem gh_icmp_gt (C : gh_X d z mm rm) {x y : Int32} {off : Int} (tgt : Nat) (hd : decode mm.2.1 pc = .ok (.if_icmp .gt off, 3)) (ht : (pc : Int) + off = (tgt : Int)) (kt : y < x → gh_W l d z tgt ls rest g cb sb) (kf : ¬ y < x → gh_W l d z (pc + 3) ls rest g cb sb) : gh_W l d z pc ls (.int y :: .int x :: rest) g cb sb := by
  obtain ⟨p, e, R, s, m, args, below, meth, c, nL, Q⟩ := z
  exact fun H locs la ce sl a b h i j => lv_icmp_gt C.1.1 C.1.2.1 hd ht (fun q => kt q H locs la ce sl a b h i j) (fun q => kf q H locs la ce sl a b h i j)
theorem gh_if_le (C : gh_X d z mm rm) {x : Int32} {off : Int} (tgt : Nat) (hd : decode mm.2.1 pc = .ok (.ifCond .le off, 3)) (ht : (pc : Int) + off = (tgt : Int)) (kt : x ≤ 0 → gh_W l d z tgt ls rest g cb sb) (kf : ¬ x ≤ 0 → gh_W l d z (pc + 3) ls rest g cb sb) : gh_W l d z pc ls (.int x :: rest) g cb sb := by
  obtain ⟨p, e, R, s, m, args, below, meth, c, nL, Q⟩ := z
  exact fun H locs la ce sl a b h i j => lv_if_le C.1.1 C.1.2.1 hd ht (fun q => kt q H locs la ce sl a b h i j) (fun q => kf q H locs la ce sl a b h i j)
theorem gh_icmp_le (C : gh_X d z mm rm) {x y : Int32} {off : Int} (tgt : Nat) (hd : decode mm.2.1 pc = .ok (.if_icmp .le off, 3)) (ht : (pc : Int) + off = (tgt : Int)) (kt : x ≤ y → gh_W l d z tgt ls rest g cb sb) (kf : ¬ x ≤ y → gh_W l d z (pc + 3) ls rest g cb sb) : gh_W l d z pc ls (.int y :: .int x :: rest) g cb sb := by
  obtain ⟨p, e, R, s, m, args, below, meth, c, nL, Q⟩ := z
  exact fun H locs la ce sl a b h i j => lv_icmp_le C.1.1 C.1.2.1 hd ht (fun q => kt q H locs la ce sl a b h i j) (fun q => kf q H locs la ce sl a b h i j)
theorem gh_goto (C : gh_X d z mm rm) {off : Int} (tgt : Nat) (hd : decode mm.2.1 pc = .ok (.goto off, 3)) (ht : (pc : Int) + off = (tgt : Int)) (k : gh_W l d z tgt ls rest g cb sb) : gh_W l d z pc ls rest g cb sb := by
  obtain ⟨p, e, R, s, m, args, below, meth, c, nL, Q⟩ := z
  exact fun H locs la ce sl a b h i j => lv_goto C.1.1 C.1.2.1 hd ht (k H locs la ce sl a b h i j)
theorem gh_tabIn (C : gh_X d z mm rm) {dflt lo hi : Int} {offs : Array Int} {len : Nat} {x : Int32} {off : Int} (tgt : Nat) (hd : decode mm.2.1 pc = .ok (.tableswitch dflt lo hi offs, len)) (h1 : ¬ x.toInt < lo) (h2 : ¬ hi < x.toInt) (ho : offs[(x.toInt - lo).toNat]? = some off) (ht : (pc : Int) + off = (tgt : Int)) (k : gh_W l d z tgt ls rest g cb sb) : gh_W l d z pc ls (.int x :: rest) g cb sb := by
  obtain ⟨p, e, R, s, m, args, below, meth, c, nL, Q⟩ := z
  exact fun H locs la ce sl a b h i j => lv_tableIn C.1.1 C.1.2.1 hd h1 h2 ho ht (k H locs la ce sl a b h i j)
theorem gh_tabOut (C : gh_X d z mm rm) {dflt lo hi : Int} {offs : Array Int} {len : Nat} {x : Int32} (tgt : Nat) (hd : decode mm.2.1 pc = .ok (.tableswitch dflt lo hi offs, len)) (h : x.toInt < lo ∨ hi < x.toInt) (ht : (pc : Int) + dflt = (tgt : Int)) (k : gh_W l d z tgt ls rest g cb sb) : gh_W l d z pc ls (.int x :: rest) g cb sb := by
  obtain ⟨p, e, R, s, m, args, below, meth, c, nL, Q⟩ := z
  exact fun H locs la ce sl a b h9 i j => lv_tableOut C.1.1 C.1.2.1 hd h ht (k H locs la ce sl a b h9 i j)
theorem gh_forget (C : gh_X d z mm rm) (ls1 : List (Option Value)) (hl : ls1.length = ls.length) (hf : ∀ (i : Nat) (v : Value), ls1[i]? = some (some v) → ls[i]? = some (some v)) (k : gh_W l d z pc ls1 rest g cb sb) : gh_W l d z pc ls rest g cb sb := by
  obtain ⟨p, e, R, s, m, args, below, meth, c, nL, Q⟩ := z
  exact fun H locs la ce sl a b h i j => k H locs la ce sl a b (h.forget hl hf) i j
theorem gh_less (C : gh_X d z mm rm) (cb1 sb1 : Nat) (h1 : cb1 ≤ cb) (h2 : sb1 ≤ sb) (k : gh_W l d z pc ls rest g cb1 sb1) : gh_W l d z pc ls rest g cb sb := by
  obtain ⟨p, e, R, s, m, args, below, meth, c, nL, Q⟩ := z
  exact fun H locs la ce sl a b h i j => k H locs la ce sl a b h (by omega) (by omega)
/-- a field that an instruction at 'index' of class own names: of class ci, slot k -/
def gh_F (own : String) (index ci k : Nat) : Prop := ∃ r : vw_C, gh_cl[ci]? = some r ∧ k < r.2.2 ∧ (∀ w ∈ u_ws r.1 r.2.1 r.2.2, w ∈ gh_T) ∧ (Cond.fieldLink own index (r.2.1 k).1 (r.2.1 k).2.1 (r.2.1 k).2.2.1 ∈ gh_T ∨ ∃ host : String, Cond.fieldLinkNest own index (r.2.1 k).1 (r.2.1 k).2.1 (r.2.1 k).2.2.1 host ∈ gh_nw)
theorem gh_R.at {H : Heap} (h : gh_R d g H) {k : gh_K} {a : Nat} {x : gh_E} (hk : g k = some (a, x)) : va_P d.1 gh_cl [(a, gh_e d x)] H := fun i q hi => by
  have : i < 1 := (List.getElem?_eq_some_iff.mp hi).1
  rw [show i = 0 by omega] at hi
  cases hi
  exact (h.2.2.1 k a x hk).1
/-- a cell is written: the rest stays -/
theorem gh_R.put {H H1 : Heap} (h : gh_R d g H) {k : gh_K} {a : Nat} {x x1 : gh_E} (hk : g k = some (a, x)) (hz : H1.size = H.size) (ho : ∀ q : Nat, q ≠ a → H1[q]? = H[q]?) (hn : va_at d.1 gh_cl (a, gh_e d x1) H1) : gh_R d (gh_u g k (a, x1)) H1 := by
  obtain ⟨h1, h2, h3, h4⟩ := h
  have hla := (h3 k a x hk).2
  refine ⟨by omega, fun q hq => (ho q (by omega)).trans (h2 q hq), fun k2 b y hy => ?_, fun k1 k2 b y1 y2 e1 e2 => ?_⟩
  · by_cases he : k2 = k
    · subst he
      rw [gh_us] at hy
      cases hy
      exact ⟨hn, hla⟩
    · rw [gh_un he] at hy
      have hb : b ≠ a := fun e => he (h4 k2 k b y x hy (by rw [e]; exact hk))
      exact ⟨(h3 k2 b y hy).1.kept (ho b hb), (h3 k2 b y hy).2⟩
  · by_cases he1 : k1 = k
    · by_cases he2 : k2 = k
      · rw [he1, he2]
      · rw [he1, gh_us] at e1
        rw [gh_un he2] at e2
        cases e1
        exact (he2 (h4 k2 k a y2 x e2 hk)).elim
    · rw [gh_un he1] at e1
      by_cases he2 : k2 = k
      · rw [he2, gh_us] at e2
        cases e2
        exact (he1 (h4 k1 k a y1 x e1 hk)).elim
      · rw [gh_un he2] at e2
        exact h4 k1 k2 b y1 y2 e1 e2
/-- a new cell -/
theorem gh_R.push {H H1 : Heap} (h : gh_R d g H) {k : gh_K} {x1 : gh_E} (hz : H1.size = H.size + 1) (ho : ∀ q : Nat, q < H.size → H1[q]? = H[q]?) (hn : va_at d.1 gh_cl (H.size, gh_e d x1) H1) : gh_R d (gh_u g k (H.size, x1)) H1 := by
  obtain ⟨h1, h2, h3, h4⟩ := h
  have hlt : ∀ (k2 : gh_K) (b : Nat) (y : gh_E), g k2 = some (b, y) → b < H.size := fun k2 b y hy => (h3 k2 b y hy).1.lt
  refine ⟨by omega, fun q hq => (ho q (by omega)).trans (h2 q hq), fun k2 b y hy => ?_, fun k1 k2 b y1 y2 e1 e2 => ?_⟩
  · by_cases he : k2 = k
    · subst he
      rw [gh_us] at hy
      cases hy
      exact ⟨hn, h1⟩
    · rw [gh_un he] at hy
      exact ⟨(h3 k2 b y hy).1.kept (ho b (hlt k2 b y hy)), (h3 k2 b y hy).2⟩
  · by_cases he1 : k1 = k
    · by_cases he2 : k2 = k
      · rw [he1, he2]
      · rw [he1, gh_us] at e1
        rw [gh_un he2] at e2
        cases e1
        exact absurd (hlt k2 _ y2 e2) (Nat.lt_irrefl _)
    · rw [gh_un he1] at e1
      by_cases he2 : k2 = k
      · rw [he2, gh_us] at e2
        cases e2
        exact absurd (hlt k1 _ y1 e1) (Nat.lt_irrefl _)
      · rw [gh_un he2] at e2
        exact h4 k1 k2 b y1 y2 e1 e2
theorem gh_lo {locs : List Loc} {lo a i : Nat} (h : ∀ q ∈ locs, lo ≤ q.base) (ha : lo ≤ a) : ∀ q ∈ locs ++ [(⟨a, i⟩ : Loc)], lo ≤ q.base := fun q hq => by
  rcases List.mem_append.mp hq with h1 | h1
  · exact h q h1
  · rw [List.mem_singleton] at h1
    subst h1
    exact ha
theorem gh_get (C : gh_X d z mm rm) {index ci k a : Nat} {K : gh_K} {fs : List Value} {v : Value} (hF : gh_F mm.1.cls index ci k) (hg : g K = some (a, .inr (ci, fs))) (hv : fs[k]? = some v) (hd : decode mm.2.1 pc = .ok (.getfield index, 3)) (kk : gh_W l d z (pc + 3) ls (v :: rest) g cb sb) : gh_W l d z pc ls (.ref a :: rest) g cb sb := by
  obtain ⟨p, e, R, s, m, args, below, meth, c, nL, Q⟩ := z
  obtain ⟨⟨hx, hb, hml, hown, hts⟩, hr, hlk, hK, hR, hnm⟩ := C
  obtain ⟨⟨C1, T, N⟩, hc, hk, hin, hl⟩ := hF
  intro H locs la ce sl hG hlo hL i j
  rcases hl with hl | ⟨host, hl⟩
  · exact va_get hx hb hts hin hown hK.1 (hG.at hg) 0 rfl hc k hk (hts _ hl) (fun _ h9 => h9) hv hd (kk H locs la ce sl hG hlo hL i j)
  · exact va_getN hx hb hts hin hown hK.1 (hG.at hg) 0 rfl hc k hk (va_Nw.use rfl (hK.2.2 _ hl)) (fun _ h9 => h9) hv hd (kk H locs la ce sl hG hlo hL i j)
/-- a field that an instruction writes: of class ci, slot k, of this type; final or not -/
def gh_FP (own : String) (index ci k : Nat) (ty : FieldType) (fin : Bool) : Prop := ∃ (r : vw_C) (ty0 : Nat → FieldType), gh_cl[ci]? = some r ∧ k < r.2.2 ∧ (∀ w ∈ u_ws r.1 r.2.1 r.2.2, w ∈ gh_T) ∧ (∀ j, j < r.2.2 → parseFieldDescriptor (r.2.1 j).2.2.1 = some (ty0 j)) ∧ (∀ a, a < r.2.2 → ∀ b, b < r.2.2 → a ≠ b → (r.2.1 a).2.1 ≠ (r.2.1 b).2.1) ∧ parseFieldDescriptor (r.2.1 k).2.2.1 = some ty ∧ (r.2.1 k).2.2.2 = fin ∧
  (Cond.fieldLink own index (r.2.1 k).1 (r.2.1 k).2.1 (r.2.1 k).2.2.1 ∈ gh_T ∧ (fin = true → (r.2.1 k).1 = own) ∨ fin = false ∧ ∃ host : String, Cond.fieldLinkNest own index (r.2.1 k).1 (r.2.1 k).2.1 (r.2.1 k).2.2.1 host ∈ gh_nw)
theorem gh_put (C : gh_X d z mm rm) {index ci k a : Nat} {ty : FieldType} {fin : Bool} {K : gh_K} {fs : List Value} {v : Value} (hF : gh_FP mm.1.cls index ci k ty fin) (hfi : fin = true → mm.1.name = "<init>") (hg : g K = some (a, .inr (ci, fs))) (hv : k < fs.length) (hn : narrow ty v = v) (hft : fits ty v = true) (hd : decode mm.2.1 pc = .ok (.putfield index, 3)) (kk : gh_W l d z (pc + 3) ls rest (gh_u g K (a, .inr (ci, fs.set k v))) cb sb) : gh_W l d z pc ls (v :: .ref a :: rest) g cb sb := by
  obtain ⟨p, e, R, s, m, args, below, meth, c, nL, Q⟩ := z
  obtain ⟨⟨hx, hb, hml, hown, hts⟩, hr, hlk, hK, hR, hnm⟩ := C
  obtain ⟨⟨C1, T, N⟩, ty0, hc, hk, hin, hty, hnn, hpd, hfin, hl⟩ := hF
  intro H locs la ce sl hG hlo hL i j
  have hap := va_apart (own := mm.1.cls) hts hin ty0 hty hnn hK.1 hc
  have hat := hG.2.2.1 K a _ hg
  obtain ⟨⟨r, h1, cell, q1, q2, q3, q4⟩, hla⟩ := hat
  have hr : r = (C1, T, N) := Option.some.inj (h1.symm.trans hc)
  subst hr
  obtain ⟨hS, hfc, kC, hkC, hkind⟩ := hK.1.1 ci _ hc
  obtain ⟨cf, kf, fi, f, hi, hsl⟩ := hS k hk
  have hst := (u_facts hfc hkC (u_lays hts hin hk) hi).1
  have fin9 : ∀ (H1 : Heap), H1[a]? = some (cell.setSlot f.slot v) → H1.size = H.size → (∀ q : Nat, q ≠ a → H1[q]? = H[q]?) → W p l e R s m args below meth c H1 (locs ++ [⟨a, f.slot⟩]) ce sl Q (F0 m (pc + 3) la rest) := by
    intro H1 e1 e2 e3
    rw [hsl] at e1 ⊢
    exact kk H1 _ la ce sl (hG.put hg e2 e3 ⟨_, hc, t_OB.to (V := updV (vp_V fs) k v) ⟨_, e1, q2, q3, t_set q4 hap hk v⟩ (fun j _ => vp_updV_set hv v j)⟩) (gh_lo hlo hla) hL i j
  have hlay := hts _ (hin _ (u_in_lay hk))
  unfold u_lay at hlay
  cases fin with
  | false =>
    rw [if_neg (by rw [hfin]; decide)] at hlay
    have h6 := u_store hfc hkC hkind hlay hi hpd hn hft
    rcases hl with ⟨hl, -⟩ | ⟨-, host, hl⟩
    · exact W.putK hx hb (f := f) ⟨hown, hts _ hl, ⟨_, _, _, hi⟩, hst⟩ (by rw [q2]; exact h6) q1 q3 (by rw [hsl]; exact k2_hasslot (q4 k hk)) rfl rfl hd fin9
    · exact va_WputK hx hb (f := f) hown (va_Nw.use rfl (hK.2.2 _ hl)) hi hst (by rw [q2]; exact h6) q1 q3 (by rw [hsl]; exact k2_hasslot (q4 k hk)) rfl rfl hd fin9
  | true =>
    rw [if_pos hfin] at hlay
    rcases hl with ⟨hl, hdecl⟩ | ⟨hl, -⟩
    · have hcf : m.cls = cf := by
        obtain ⟨_, _, c', _, _, _, -, -, hf', -, -, -, hown2, -⟩ := Cond.laysFinal_spec hlay
        have e1 : c' = cf := by have := hi.symm.trans hf'; simp at this; exact this.1.symm
        rw [hdecl rfl] at hown2
        rw [← e1]; exact Option.some.inj (hown.symm.trans hown2)
      have h6 := u_fits hfc hkC hkind (Or.inr hlay) hi hpd hn hft
      exact W.putFinK hx hb hown (hts _ hl) hi hst hcf (hnm.trans (hfi rfl)) (by rw [q2]; exact h6) q1 q3 (by rw [hsl]; exact k2_hasslot (q4 k hk)) rfl rfl hd fin9
    · cases hl
theorem gh_iald (C : gh_X d z mm rm) {t a n : Nat} {K : gh_K} {f : Nat → Int32} {i : Int32} (hg : g K = some (a, .inl (t, n, .inl f))) (ht : gh_ty[t]? = some .int) (hin : vp_in i n) (hd : decode mm.2.1 pc = .ok (.iaload, 1)) (kk : gh_W l d z (pc + 1) ls (.int (f i.toNatClampNeg) :: rest) g cb sb) : gh_W l d z pc ls (.int i :: .ref a :: rest) g cb sb := by
  obtain ⟨p, e, R, s, m, args, below, meth, c, nL, Q⟩ := z
  obtain ⟨⟨hx, hb, hml, hown, hts⟩, hr, hlk, hK, hR, hnm⟩ := C
  have hK1 : va_K d.1 gh_cl [(d.2.1 t, .int)] s := ⟨hK.1.1, fun k q hq => by
    have : k < 1 := (List.getElem?_eq_some_iff.mp hq).1
    rw [show k = 0 by omega] at hq
    cases hq
    exact hK.2.1 t _ ht⟩
  exact fun H locs la ce sl hG hlo hL i j => va_iald hx hb hK1 (hG.at hg) 0 0 rfl rfl hin hd (kk H locs la ce sl hG hlo hL i j)
theorem gh_bald (C : gh_X d z mm rm) {t a n : Nat} {K : gh_K} {f : Nat → Int32} {i : Int32} (hg : g K = some (a, .inl (t, n, .inl f))) (ht : gh_ty[t]? = some .byte) (hin : vp_in i n) (hd : decode mm.2.1 pc = .ok (.baload, 1)) (kk : gh_W l d z (pc + 1) ls (.int (f i.toNatClampNeg) :: rest) g cb sb) : gh_W l d z pc ls (.int i :: .ref a :: rest) g cb sb := by
  obtain ⟨p, e, R, s, m, args, below, meth, c, nL, Q⟩ := z
  obtain ⟨⟨hx, hb, hml, hown, hts⟩, hr, hlk, hK, hR, hnm⟩ := C
  have hK1 : va_K d.1 gh_cl [(d.2.1 t, .byte)] s := ⟨hK.1.1, fun k q hq => by
    have : k < 1 := (List.getElem?_eq_some_iff.mp hq).1
    rw [show k = 0 by omega] at hq
    cases hq
    exact hK.2.1 t _ ht⟩
  exact fun H locs la ce sl hG hlo hL i j => va_bald hx hb hK1 (hG.at hg) 0 0 rfl rfl hin hd (kk H locs la ce sl hG hlo hL i j)
theorem gh_zald (C : gh_X d z mm rm) {t a n : Nat} {K : gh_K} {f : Nat → Int32} {i : Int32} (hg : g K = some (a, .inl (t, n, .inl f))) (ht : gh_ty[t]? = some .boolean) (hin : vp_in i n) (hd : decode mm.2.1 pc = .ok (.baload, 1)) (kk : gh_W l d z (pc + 1) ls (.int (f i.toNatClampNeg) :: rest) g cb sb) : gh_W l d z pc ls (.int i :: .ref a :: rest) g cb sb := by
  obtain ⟨p, e, R, s, m, args, below, meth, c, nL, Q⟩ := z
  obtain ⟨⟨hx, hb, hml, hown, hts⟩, hr, hlk, hK, hR, hnm⟩ := C
  have hK1 : va_K d.1 gh_cl [(d.2.1 t, .boolean)] s := ⟨hK.1.1, fun k q hq => by
    have : k < 1 := (List.getElem?_eq_some_iff.mp hq).1
    rw [show k = 0 by omega] at hq
    cases hq
    exact hK.2.1 t _ ht⟩
  exact fun H locs la ce sl hG hlo hL i j => va_zald hx hb hK1 (hG.at hg) 0 0 rfl rfl hin hd (kk H locs la ce sl hG hlo hL i j)
theorem gh_lald (C : gh_X d z mm rm) {t a n : Nat} {K : gh_K} {f : Nat → Int64} {i : Int32} (hg : g K = some (a, .inl (t, n, .inr (.inl f)))) (ht : gh_ty[t]? = some .long) (hin : vp_in i n) (hd : decode mm.2.1 pc = .ok (.laload, 1)) (kk : gh_W l d z (pc + 1) ls (.long (f i.toNatClampNeg) :: rest) g cb sb) : gh_W l d z pc ls (.int i :: .ref a :: rest) g cb sb := by
  obtain ⟨p, e, R, s, m, args, below, meth, c, nL, Q⟩ := z
  obtain ⟨⟨hx, hb, hml, hown, hts⟩, hr, hlk, hK, hR, hnm⟩ := C
  have hK1 : va_K d.1 gh_cl [(d.2.1 t, .long)] s := ⟨hK.1.1, fun k q hq => by
    have : k < 1 := (List.getElem?_eq_some_iff.mp hq).1
    rw [show k = 0 by omega] at hq
    cases hq
    exact hK.2.1 t _ ht⟩
  exact fun H locs la ce sl hG hlo hL i j => va_lald hx hb hK1 (hG.at hg) 0 0 rfl rfl hin hd (kk H locs la ce sl hG hlo hL i j)
theorem gh_aald (C : gh_X d z mm rm) {t a n : Nat} {C1 : String} {K : gh_K} {f : Nat → Option Nat} {i : Int32} (hg : g K = some (a, .inl (t, n, .inr (.inr (.inr (.inr f)))))) (ht : gh_ty[t]? = some (.object C1)) (hin : vp_in i n) (hd : decode mm.2.1 pc = .ok (.aaload, 1)) (kk : gh_W l d z (pc + 1) ls (va_rf (f i.toNatClampNeg) :: rest) g cb sb) : gh_W l d z pc ls (.int i :: .ref a :: rest) g cb sb := by
  obtain ⟨p, e, R, s, m, args, below, meth, c, nL, Q⟩ := z
  obtain ⟨⟨hx, hb, hml, hown, hts⟩, hr, hlk, hK, hR, hnm⟩ := C
  have hK1 : va_K d.1 gh_cl [(d.2.1 t, .object C1)] s := ⟨hK.1.1, fun k q hq => by
    have : k < 1 := (List.getElem?_eq_some_iff.mp hq).1
    rw [show k = 0 by omega] at hq
    cases hq
    exact hK.2.1 t _ ht⟩
  exact fun H locs la ce sl hG hlo hL i j => va_aldq hx hb hK1 (hG.at hg) 0 0 rfl rfl hin hd (kk H locs la ce sl hG hlo hL i j)
theorem gh_alen (C : gh_X d z mm rm) {t a : Nat} {K : gh_K} {q : vp_A} {ty : FieldType} (hg : g K = some (a, .inl (t, q))) (ht : gh_ty[t]? = some ty) (hd : decode mm.2.1 pc = .ok (.arraylength, 1)) (kk : gh_W l d z (pc + 1) ls (.int (nI q.1) :: rest) g cb sb) : gh_W l d z pc ls (.ref a :: rest) g cb sb := by
  obtain ⟨p, e, R, s, m, args, below, meth, c, nL, Q⟩ := z
  obtain ⟨⟨hx, hb, hml, hown, hts⟩, hr, hlk, hK, hR, hnm⟩ := C
  have hK1 : va_K d.1 gh_cl [(d.2.1 t, ty)] s := ⟨hK.1.1, fun k q hq => by
    have : k < 1 := (List.getElem?_eq_some_iff.mp hq).1
    rw [show k = 0 by omega] at hq
    cases hq
    exact hK.2.1 t _ ht⟩
  exact fun H locs la ce sl hG hlo hL i j => va_alen hx hb hK1 (hG.at hg) 0 0 rfl rfl rfl hd (kk H locs la ce sl hG hlo hL i j)
theorem gh_iast (C : gh_X d z mm rm) {t a n : Nat} {K : gh_K} {f : Nat → Int32} {i : Int32} {x : Int32} (hg : g K = some (a, .inl (t, n, .inl f))) (ht : gh_ty[t]? = some .int) (hin : vp_in i n) (hd : decode mm.2.1 pc = .ok (.iastore, 1)) (kk : gh_W l d z (pc + 1) ls rest (gh_u g K (a, .inl (t, n, .inl (upd f i.toNatClampNeg x)))) cb sb) : gh_W l d z pc ls (.int x :: .int i :: .ref a :: rest) g cb sb := by
  obtain ⟨p, e, R, s, m, args, below, meth, c, nL, Q⟩ := z
  obtain ⟨⟨hx, hb, hml, hown, hts⟩, hr, hlk, hK, hR, hnm⟩ := C
  intro H locs la ce sl hG hlo hL i9 j9
  obtain ⟨hat, hla⟩ := hG.2.2.1 K a _ hg
  refine W.iast hx hb hat ((hK.2.1 t _ ht).1 n (fun j => .int (f j))) (fun q => by cases q) (by show ¬ (i < 0 ∨ (arrV _ _ _).slots.size ≤ _); rw [arrV_size]; exact hin) rfl rfl hd fun H1 e1 e2 e3 => ?_
  refine kk H1 _ la ce sl (hG.put hg e2 e3 ?_) (gh_lo hlo hla) hL i9 j9
  have e1 : H1[a]? = some ((vp_cell (d.2.1 t) (n, .inl f)).setSlot i.toNatClampNeg (.int x)) := e1
  show H1[a]? = some (vp_cell (d.2.1 t) (n, .inl (upd f i.toNatClampNeg x)))
  rw [e1]
  rw [vp_cell_i, vp_cell_i, arrV_store]
  congr 2
  funext q
  by_cases hq : q = i.toNatClampNeg
  · subst hq
    simp [updV, upd]
  · simp [updV, upd, hq]
theorem gh_bast (C : gh_X d z mm rm) {t a n : Nat} {K : gh_K} {f : Nat → Int32} {i : Int32} {x : Int32} (hg : g K = some (a, .inl (t, n, .inl f))) (ht : gh_ty[t]? = some .byte) (hin : vp_in i n) (hd : decode mm.2.1 pc = .ok (.bastore, 1)) (kk : gh_W l d z (pc + 1) ls rest (gh_u g K (a, .inl (t, n, .inl (upd f i.toNatClampNeg (vp_nar .byte x))))) cb sb) : gh_W l d z pc ls (.int x :: .int i :: .ref a :: rest) g cb sb := by
  obtain ⟨p, e, R, s, m, args, below, meth, c, nL, Q⟩ := z
  obtain ⟨⟨hx, hb, hml, hown, hts⟩, hr, hlk, hK, hR, hnm⟩ := C
  intro H locs la ce sl hG hlo hL i9 j9
  obtain ⟨hat, hla⟩ := hG.2.2.1 K a _ hg
  refine W.bast hx hb hat ((hK.2.1 t _ ht).1 n (fun j => .int (f j))) (fun q => by cases q) (by show ¬ (i < 0 ∨ (arrV _ _ _).slots.size ≤ _); rw [arrV_size]; exact hin) rfl rfl hd fun H1 e1 e2 e3 => ?_
  refine kk H1 _ la ce sl (hG.put hg e2 e3 ?_) (gh_lo hlo hla) hL i9 j9
  have e1 : H1[a]? = some ((vp_cell (d.2.1 t) (n, .inl f)).setSlot i.toNatClampNeg (narrow .byte (.int x))) := e1
  show H1[a]? = some (vp_cell (d.2.1 t) (n, .inl (upd f i.toNatClampNeg (vp_nar .byte x))))
  rw [e1]
  rw [vp_cell_i, vp_cell_i, arrV_store]
  congr 2
  funext q
  by_cases hq : q = i.toNatClampNeg
  · subst hq
    simp [updV, upd, vp_nar]
    try rfl
  · simp [updV, upd, vp_nar, hq]
theorem gh_zast (C : gh_X d z mm rm) {t a n : Nat} {K : gh_K} {f : Nat → Int32} {i : Int32} {x : Int32} (hg : g K = some (a, .inl (t, n, .inl f))) (ht : gh_ty[t]? = some .boolean) (hin : vp_in i n) (hd : decode mm.2.1 pc = .ok (.bastore, 1)) (kk : gh_W l d z (pc + 1) ls rest (gh_u g K (a, .inl (t, n, .inl (upd f i.toNatClampNeg (vp_nar .boolean x))))) cb sb) : gh_W l d z pc ls (.int x :: .int i :: .ref a :: rest) g cb sb := by
  obtain ⟨p, e, R, s, m, args, below, meth, c, nL, Q⟩ := z
  obtain ⟨⟨hx, hb, hml, hown, hts⟩, hr, hlk, hK, hR, hnm⟩ := C
  intro H locs la ce sl hG hlo hL i9 j9
  obtain ⟨hat, hla⟩ := hG.2.2.1 K a _ hg
  refine W.zast hx hb hat ((hK.2.1 t _ ht).1 n (fun j => .int (f j))) (fun q => by cases q) (by show ¬ (i < 0 ∨ (arrV _ _ _).slots.size ≤ _); rw [arrV_size]; exact hin) rfl rfl hd fun H1 e1 e2 e3 => ?_
  refine kk H1 _ la ce sl (hG.put hg e2 e3 ?_) (gh_lo hlo hla) hL i9 j9
  have e1 : H1[a]? = some ((vp_cell (d.2.1 t) (n, .inl f)).setSlot i.toNatClampNeg (narrow .boolean (.int x))) := e1
  show H1[a]? = some (vp_cell (d.2.1 t) (n, .inl (upd f i.toNatClampNeg (vp_nar .boolean x))))
  rw [e1]
  rw [vp_cell_i, vp_cell_i, arrV_store]
  congr 2
  funext q
  by_cases hq : q = i.toNatClampNeg
  · subst hq
    simp [updV, upd, vp_nar]
    try rfl
  · simp [updV, upd, vp_nar, hq]
theorem gh_last (C : gh_X d z mm rm) {t a n : Nat} {K : gh_K} {f : Nat → Int64} {i : Int32} {x : Int64} (hg : g K = some (a, .inl (t, n, .inr (.inl f)))) (ht : gh_ty[t]? = some .long) (hin : vp_in i n) (hd : decode mm.2.1 pc = .ok (.lastore, 1)) (kk : gh_W l d z (pc + 1) ls rest (gh_u g K (a, .inl (t, n, .inr (.inl (vp_updL f i.toNatClampNeg x))))) cb sb) : gh_W l d z pc ls (.long x :: .int i :: .ref a :: rest) g cb sb := by
  obtain ⟨p, e, R, s, m, args, below, meth, c, nL, Q⟩ := z
  obtain ⟨⟨hx, hb, hml, hown, hts⟩, hr, hlk, hK, hR, hnm⟩ := C
  intro H locs la ce sl hG hlo hL i9 j9
  obtain ⟨hat, hla⟩ := hG.2.2.1 K a _ hg
  refine W.last hx hb hat ((hK.2.1 t _ ht).1 n (fun j => .long (f j))) (fun q => by cases q) (by show ¬ (i < 0 ∨ (arrV _ _ _).slots.size ≤ _); rw [arrV_size]; exact hin) rfl rfl hd fun H1 e1 e2 e3 => ?_
  refine kk H1 _ la ce sl (hG.put hg e2 e3 ?_) (gh_lo hlo hla) hL i9 j9
  have e1 : H1[a]? = some ((vp_cell (d.2.1 t) (n, .inr (.inl f))).setSlot i.toNatClampNeg (.long x)) := e1
  show H1[a]? = some (vp_cell (d.2.1 t) (n, .inr (.inl (vp_updL f i.toNatClampNeg x))))
  rw [e1]
  rw [vp_cell_l, vp_cell_l, arrV_store]
  congr 2
  funext q
  by_cases hq : q = i.toNatClampNeg
  · subst hq
    simp [updV, vp_updL]
    try rfl
  · simp [updV, vp_updL, hq]
theorem gh_aast (C : gh_X d z mm rm) {t a n ci v : Nat} {K Kv : gh_K} {r : vw_C} {fs : List Value} {f : Nat → Option Nat} {i : Int32} (hg : g K = some (a, .inl (t, n, .inr (.inr (.inr (.inr f)))))) (ht : gh_ty[t]? = some (.object r.1)) (hgv : g Kv = some (v, .inr (ci, fs))) (hc : gh_cl[ci]? = some r) (hin : vp_in i n) (hd : decode mm.2.1 pc = .ok (.aastore, 1)) (kk : gh_W l d z (pc + 1) ls rest (gh_u g K (a, .inl (t, n, .inr (.inr (.inr (.inr (va_up f i.toNatClampNeg (some v)))))))) cb sb) : gh_W l d z pc ls (.ref v :: .int i :: .ref a :: rest) g cb sb := by
  obtain ⟨p, e, R, s, m, args, below, meth, c, nL, Q⟩ := z
  obtain ⟨⟨hx, hb, hml, hown, hts⟩, hr, hlk, hK, hR, hnm⟩ := C
  intro H locs la ce sl hG hlo hL i9 j9
  obtain ⟨hat, hla⟩ := hG.2.2.1 K a _ hg
  obtain ⟨⟨r', hr', cellV, g1, g2, g3, -⟩, -⟩ := hG.2.2.1 Kv v _ hgv
  have hlt : i.toNatClampNeg < n := Nat.not_le.mp fun q => hin (Or.inr q)
  have h0 : ¬ i < 0 := fun q => hin (Or.inl q)
  have hcls := (hK.1.1 ci r hc).2
  obtain ⟨kA, comp, k1, k2, k3, -⟩ := (hK.2.1 t _ ht).2
  have hcomp : comp = d.1.1 ci := Option.some.inj (k3.symm.trans hcls.1)
  subst hcomp
  obtain ⟨kC, hkC, -⟩ := id hcls.2
  refine W.aast hx hb hat (fun q h => by cases h) (fun h => by cases h) k1 k2 rfl hkC ⟨h0, by show _ < (arrV _ _ _).slots.size; rw [arrV_size]; exact hlt⟩ g1 (fun q h => by rw [g3] at h; cases h) (by rw [g2]; exact hkC) (by rw [g2]; exact va_assign hcls) rfl rfl hd fun H1 e1 e2 e3 => ?_
  refine kk H1 _ la ce sl (hG.put hg e2 e3 ?_) (gh_lo hlo hla) hL i9 j9
  have e1 : H1[a]? = some ((vp_cell (d.2.1 t) (n, .inr (.inr (.inr (.inr f))))).setSlot i.toNatClampNeg (.ref v)) := e1
  show H1[a]? = some (vp_cell (d.2.1 t) (n, .inr (.inr (.inr (.inr (va_up f i.toNatClampNeg (some v)))))))
  rw [e1]
  rw [vp_cell_q, vp_cell_q, arrV_store]
  congr 2
  funext q
  by_cases hq : q = i.toNatClampNeg
  · subst hq
    simp [updV, va_up, va_rf]
    try rfl
  · simp [updV, va_up, va_rf, hq]
/-- a class that an instruction at 'index' of class own makes: number ci, n fields, blank they are fs -/
def gh_N (own : String) (index ci n : Nat) (fs : List Value) : Prop := ∃ (r : vw_C) (ty : Nat → FieldType), gh_cl[ci]? = some r ∧ r.2.2 = n ∧ (∀ w ∈ u_ws r.1 r.2.1 r.2.2, w ∈ gh_T) ∧ (∀ k, k < r.2.2 → parseFieldDescriptor (r.2.1 k).2.2.1 = some (ty k)) ∧ Cond.classLink own index r.1 ∈ gh_T ∧ Cond.instantiable r.1 n ∈ gh_T ∧ Cond.initialized r.1 ∈ gh_T ∧ ∀ j, j < n → defaultValue (ty j) = vp_V fs j
theorem gh_new (C : gh_X d z mm rm) {index ci n : Nat} {fs : List Value} (K : gh_K) (hN : gh_N mm.1.cls index ci n fs) (cb1 sb1 : Nat) (h1 : cb1 + 1 ≤ cb) (h2 : sb1 + n ≤ sb) (hd : decode mm.2.1 pc = .ok (.new index, 3)) (kk : ∀ a : Nat, (∀ (k : gh_K) (b : Nat) (x : gh_E), g k = some (b, x) → b ≠ a) → gh_W l d z (pc + 3) ls (.ref a :: rest) (gh_u g K (a, .inr (ci, fs))) cb1 sb1) : gh_W l d z pc ls rest g cb sb := by
  obtain ⟨p, e, R, s, m, args, below, meth, c, nL, Q⟩ := z
  obtain ⟨⟨hx, hb, hml, hown, hts⟩, hr, hlk, hK, hR, hnm⟩ := C
  obtain ⟨⟨C1, T, N⟩, ty, hc, hn, hin, hty, w1, w2, w3, hfs⟩ := hN
  have hn : N = n := hn
  subst hn
  intro H locs la ce sl hG hlo hL i9 j9
  have hKn := hK.1.1 ci _ hc
  refine W.newcK hx hb hown (hts _ w1) (hts _ w2) (hts _ w3) rfl hd (by omega) (by omega) hKn.2.1 rfl fun H1 kC hkC e1 z1 o1 => ?_
  refine kk H.size (fun k b x hk => Nat.ne_of_lt (hG.2.2.1 k b x hk).1.lt) H1 locs la (ce + 1) (sl + N) (hG.push z1 o1 ?_) hlo hL (by omega) (by omega)
  exact ⟨_, hc, (u_born ty hts hin hKn hkC e1 hty).to hfs⟩
theorem gh_newa (C : gh_X d z mm rm) {atype : ArrayType} {t : Nat} {ty : FieldType} {n : Int32} {N : Nat} {q0 : vp_A} (K : gh_K) (ht : gh_ty[t]? = some ty) (hty : newarray.typeOf atype = ty) (hw : Cond.arrayClass ty ∈ gh_T) (hp : ∀ C1 : String, ty ≠ .object C1) (ha : ∀ cA : ClassId, vp_cell cA q0 = arrV cA N (fun _ => defaultValue ty)) (hn : ¬ n < 0) (hN : n.toNatClampNeg = N) (hbytes : N * componentBytes ty ≤ 536870912) (cb1 sb1 : Nat) (h1 : cb1 + 1 ≤ cb) (h2 : sb1 + N ≤ sb) (hd : decode mm.2.1 pc = .ok (.newarray atype, 2)) (kk : ∀ a : Nat, (∀ (k : gh_K) (b : Nat) (x : gh_E), g k = some (b, x) → b ≠ a) → gh_W l d z (pc + 2) ls (.ref a :: rest) (gh_u g K (a, .inl (t, q0))) cb1 sb1) : gh_W l d z pc ls (.int n :: rest) g cb sb := by
  obtain ⟨p, e, R, s, m, args, below, meth, c, nL, Q⟩ := z
  obtain ⟨⟨hx, hb, hml, hown, hts⟩, hr, hlk, hK, hR, hnm⟩ := C
  subst hty
  intro H locs la ce sl hG hlo hL i9 j9
  refine va_newaK hx hb (hts _ hw) rfl hd rfl hn hN hbytes (by omega) (by omega) rfl fun H1 cA e1 z1 o1 hAr hNm => ?_
  refine kk H.size (fun k b x hk => Nat.ne_of_lt (hG.2.2.1 k b x hk).1.lt) H1 locs la (ce + 1) (sl + N) (hG.push z1 o1 ?_) hlo hL (by omega) (by omega)
  show H1[H.size]? = some (vp_cell _ _)
  have hcA : d.2.1 t = cA := by
    have h9 := (hK.2.1 t _ ht).2
    have h8 : s.vm.findClass ("[" ++ (newarray.typeOf atype).toString) = some (d.2.1 t) := by
      generalize newarray.typeOf atype = ty at h9 hp
      cases ty with
      | object C1 => exact absurd rfl (hp C1)
      | _ => exact h9
    exact Option.some.inj (h8.symm.trans hNm)
  rw [ha, hcA]
  exact e1
theorem gh_anew (C : gh_X d z mm rm) {index t : Nat} {C1 : String} {n : Int32} {N : Nat} (K : gh_K) (ht : gh_ty[t]? = some (.object C1)) (w1 : Cond.classLink mm.1.cls index C1 ∈ gh_T) (w2 : Cond.arrayOver (.object C1) ∈ gh_nw) (hn : ¬ n < 0) (hN : n.toNatClampNeg = N) (hbytes : N * 4 ≤ 536870912) (cb1 sb1 : Nat) (h1 : cb1 + 1 ≤ cb) (h2 : sb1 + N ≤ sb) (hd : decode mm.2.1 pc = .ok (.anewarray index, 3)) (kk : ∀ a : Nat, (∀ (k : gh_K) (b : Nat) (x : gh_E), g k = some (b, x) → b ≠ a) → gh_W l d z (pc + 3) ls (.ref a :: rest) (gh_u g K (a, .inl (t, N, .inr (.inr (.inr (.inr (fun _ => none))))))) cb1 sb1) : gh_W l d z pc ls (.int n :: rest) g cb sb := by
  obtain ⟨p, e, R, s, m, args, below, meth, c, nL, Q⟩ := z
  obtain ⟨⟨hx, hb, hml, hown, hts⟩, hr, hlk, hK, hR, hnm⟩ := C
  subst hN
  intro H locs la ce sl hG hlo hL i9 j9
  refine W.anew hx hb hown (hts _ w1) (va_AO.use (hK.2.2 _ w2)) rfl hd rfl hn hbytes (by omega) (by omega) fun cA kA comp f1 f2 f3 f4 => ?_
  generalize hH1 : H.push ({ cls := cA, slots := Array.replicate n.toNatClampNeg .null, vm := .none } : Cell) = H1
  have z1 : H1.size = H.size + 1 := by rw [← hH1, Array.size_push]
  have e1 : H1[H.size]? = some (arrV cA n.toNatClampNeg (fun _ => .null)) := by rw [← hH1, Array.getElem?_push_size, ← arrV_new]
  have o1 : ∀ q : Nat, q < H.size → H1[q]? = H[q]? := fun q hq => by rw [← hH1, Array.getElem?_push, if_neg (Nat.ne_of_lt hq)]
  refine kk H.size (fun k b x hk => Nat.ne_of_lt (hG.2.2.1 k b x hk).1.lt) H1 locs la (ce + 1) (sl + n.toNatClampNeg) (hG.push z1 o1 ?_) hlo hL (by omega) (by omega)
  show H1[H.size]? = some (vp_cell _ _)
  obtain ⟨kA2, comp2, k1, k2, k3, k4⟩ := (hK.2.1 t _ ht).2
  have hcA : d.2.1 t = cA := Option.some.inj (k4.symm.trans f1)
  rw [vp_cell_q, hcA]
  exact e1
/-- the words of a call at 'index' of class own -/
def gh_ML (own : String) (index : Nat) (y : MethodName) : Prop := Cond.methodLink own index y ∈ gh_T ∨ ∃ host : String, Cond.methodLinkNest own index y host ∈ gh_nw
def gh_MW (mm : gh_M) (n : Nat) : Prop := Cond.code mm.1 mm.2.1 mm.2.2.1 mm.2.2.2 ∈ gh_T ∧ Cond.initialized mm.1.cls ∈ gh_T ∧ mm.1.cls ≠ "java/lang/invoke/MethodHandle" ∧ mm.1.cls ≠ "java/lang/invoke/VarHandle" ∧ (parseMethodDescriptor mm.1.desc).map (fun d => d.parameters.length) = some n
theorem gh_GI {mm : gh_M} {n : Nat} (h : gh_MW mm n) : GoodIn gh_T (.code mm.1 mm.2.1 mm.2.2.1 mm.2.2.2 :: gh_T) := fun w hw => by
  rcases List.mem_cons.mp hw with rfl | h1
  · exact ⟨h.1, gh_T_good _ h.1⟩
  · exact ⟨h1, gh_T_good _ h1⟩
/-- what a call's run gives -/
theorem gh_run {rm1 : Room} {st : List Value} {Po : Option Value → gh_H → Prop} {As : Array Value} (hc : rm1.cells ≤ cb) (hs : rm1.slots ≤ sb)
    (hr : match z with | (p, e, R, s, m, args, below, meth, c, nL, _) => ∀ (H : Heap) (locs : List Loc) (la : Array Slot) (cells slots : Nat), gh_R d g H → gh_L la nL ls → cells + cb ≤ R.cells → slots + sb ≤ R.slots → va_Run p l e R s m args below meth c H locs cells slots rm1.cells rm1.slots (F0 m pc la st) rest (gh_Qc d Po As) (fun q => d.2.2.size ≤ q))
    (kk : ∀ (v : Option Value) (g1 : gh_H), Po v g1 → gh_W l d z (pc + 3) ls (v.toList ++ rest) g1 (cb - rm1.cells) (sb - rm1.slots)) : gh_W l d z pc ls st g cb sb := by
  obtain ⟨p, e, R, s, m, args, below, meth, c, nL, Q⟩ := z
  intro H locs la ce sl hG hlo hL i9 j9 T hT X
  obtain ⟨v, st₀, t, T', L, h0, X', hl2, e1, e2, ⟨v', g1, ho, hpo, hR1⟩, stp⟩ := hr H locs la ce sl hG hL i9 j9 T hT X
  cases ho
  obtain ⟨t2, a1, b1⟩ := kk v g1 hpo T'.heap (locs ++ L) la (ce + rm1.cells) (sl + rm1.slots) (by rw [e1]; exact hR1) (fun q hq => by
    rcases List.mem_append.mp hq with h | h
    · exact hlo q h
    · exact hl2 q h) hL (by omega) (by omega) T' rfl X'
  exact ⟨t2, stp t2 a1, b1⟩
theorem gh_callV (C : gh_X d z mm rm) {m1 : gh_M} {rm1 : Room} {index n a ci : Nat} {K : gh_K} {r : vw_C} {fs : List Value} (As : List Value) {st : List Value} {Po : Option Value → gh_H → Prop} (hM : gh_C l d m1 rm1 (.ref a :: As) g Po) (hl : gh_ML mm.1.cls index m1.1) (hw : gh_MW m1 n) (hi : Cond.instanceMethod m1.1 ∈ gh_T ∧ Cond.selects r.1 m1.1 m1.1 ∈ gh_T) (hg : g K = some (a, .inr (ci, fs))) (hcl : gh_cl[ci]? = some r) (hn : As.length = n) (hst : st = As.reverse ++ .ref a :: rest) (hcat : (rest.map fun v => v.category).sum ≤ 8) (hf : rm1.frames + 1 ≤ rm.frames ∧ 8 + (m1.2.2.1 + 11) + rm1.locals ≤ rm.locals) (hc : rm1.cells ≤ cb) (hs : rm1.slots ≤ sb) (hd : decode mm.2.1 pc = .ok (.invokevirtual index, 3))
    (kk : ∀ (v : Option Value) (g1 : gh_H), Po v g1 → gh_W l d z (pc + 3) ls (v.toList ++ rest) g1 (cb - rm1.cells) (sb - rm1.slots)) : gh_W l d z pc ls st g cb sb := by
  refine gh_run (rm1 := rm1) (As := (Value.ref a :: As).toArray) hc hs ?_ kk
  obtain ⟨p, e, R, s, m, args, below, meth, c, nL, Q⟩ := z
  obtain ⟨⟨hx, hb, hml, hown, hts⟩, hr, hlk, hK, hR, hnm⟩ := C
  subst hR
  intro H locs la ce sl hG hL i9 j9
  have hrecv := va_recv hK.1 (hG.at hg) hcl (q0 := 0) rfl
  have hp : PreV s H r.1 a (gh_P d (.ref a :: As) g) As := ⟨gh_P.blind, hrecv, fun U hU hW => ⟨rfl, by rw [hU]; exact hG, hK.warm hW⟩⟩
  rcases hl with hl | ⟨host, hl⟩
  · exact va_runV (n := n) ⟨hx, hb, hml, hown, hts⟩ hM ⟨callB_of n hts (gh_GI hw) rfl rfl rfl (hts _ hw.2.1) (hts _ hl) hw.2.2 hf, hts _ hi.1, hts _ hi.2⟩ hp rfl hn hL.1 hst (lv_room hcat) hd ⟨by omega, by omega⟩
  · exact va_runVN (n := n) (host := host) ⟨hx, hb, hml, hown, hts⟩ hM ⟨va_cnB n hts (gh_GI hw) rfl rfl rfl (hK.2.2 _ hl) (hts _ hw.2.1) hw.2.2 hf, hts _ hi.1, hts _ hi.2⟩ hp rfl hn hL.1 hst (lv_room hcat) hd ⟨by omega, by omega⟩
theorem gh_callS (C : gh_X d z mm rm) {m1 : gh_M} {rm1 : Room} {index n : Nat} (As : List Value) {st : List Value} {Po : Option Value → gh_H → Prop} (hM : gh_C l d m1 rm1 As g Po) (hl : gh_ML mm.1.cls index m1.1) (hw : gh_MW m1 n) (hi : Cond.static m1.1 ∈ gh_T) (hn : As.length = n) (hst : st = As.reverse ++ rest) (hcat : (rest.map fun v => v.category).sum ≤ 8) (hf : rm1.frames + 1 ≤ rm.frames ∧ 8 + (m1.2.2.1 + 11) + rm1.locals ≤ rm.locals) (hc : rm1.cells ≤ cb) (hs : rm1.slots ≤ sb) (hd : decode mm.2.1 pc = .ok (.invokestatic index, 3))
    (kk : ∀ (v : Option Value) (g1 : gh_H), Po v g1 → gh_W l d z (pc + 3) ls (v.toList ++ rest) g1 (cb - rm1.cells) (sb - rm1.slots)) : gh_W l d z pc ls st g cb sb := by
  refine gh_run (rm1 := rm1) (As := As.toArray) hc hs ?_ kk
  obtain ⟨p, e, R, s, m, args, below, meth, c, nL, Q⟩ := z
  obtain ⟨⟨hx, hb, hml, hown, hts⟩, hr, hlk, hK, hR, hnm⟩ := C
  subst hR
  intro H locs la ce sl hG hL i9 j9
  have hp : PreS s H (gh_P d As g) As := ⟨gh_P.blind, fun U hU hW => ⟨rfl, by rw [hU]; exact hG, hK.warm hW⟩⟩
  rcases hl with hl | ⟨host, hl⟩
  · exact va_runS (n := n) ⟨hx, hb, hml, hown, hts⟩ hM ⟨callB_of n hts (gh_GI hw) rfl rfl rfl (hts _ hw.2.1) (hts _ hl) hw.2.2 hf, hts _ hi⟩ hp rfl hn hL.1 hst (lv_room hcat) hd ⟨by omega, by omega⟩
  · exact va_runSN (n := n) (host := host) ⟨hx, hb, hml, hown, hts⟩ hM ⟨va_cnB n hts (gh_GI hw) rfl rfl rfl (hK.2.2 _ hl) (hts _ hw.2.1) hw.2.2 hf, hts _ hi, trivial⟩ hp rfl hn hL.1 hst (lv_room hcat) hd ⟨by omega, by omega⟩
theorem gh_callI (C : gh_X d z mm rm) {m1 : gh_M} {rm1 : Room} {index n a : Nat} (As : List Value) {st : List Value} {Po : Option Value → gh_H → Prop} (hM : gh_C l d m1 rm1 (.ref a :: As) g Po) (hl : gh_ML mm.1.cls index m1.1) (hw : gh_MW m1 n) (hi : Cond.instanceMethod m1.1 ∈ gh_T) (h0 : m1.1.name = "<init>") (hret : m1.2.2.2 = none) (hn : As.length = n) (hst : st = As.reverse ++ .ref a :: rest) (hcat : (rest.map fun v => v.category).sum ≤ 8) (hf : rm1.frames + 1 ≤ rm.frames ∧ 8 + (m1.2.2.1 + 11) + rm1.locals ≤ rm.locals) (hc : rm1.cells ≤ cb) (hs : rm1.slots ≤ sb) (hd : decode mm.2.1 pc = .ok (.invokespecial index, 3))
    (kk : ∀ (v : Option Value) (g1 : gh_H), Po v g1 → gh_W l d z (pc + 3) ls (v.toList ++ rest) g1 (cb - rm1.cells) (sb - rm1.slots)) : gh_W l d z pc ls st g cb sb := by
  refine gh_run (rm1 := rm1) (As := (Value.ref a :: As).toArray) hc hs ?_ kk
  obtain ⟨p, e, R, s, m, args, below, meth, c, nL, Q⟩ := z
  obtain ⟨⟨hx, hb, hml, hown, hts⟩, hr, hlk, hK, hR, hnm⟩ := C
  subst hR
  intro H locs la ce sl hG hL i9 j9
  obtain ⟨y1, b1, n1, ret1⟩ := m1
  dsimp only at hret
  subst hret
  have hp : PreS s H (gh_P d (.ref a :: As) g) (.ref a :: As) := ⟨gh_P.blind, fun U hU hW => ⟨rfl, by rw [hU]; exact hG, hK.warm hW⟩⟩
  rcases hl with hl | ⟨host, hl⟩
  · exact va_runI (n := n) ⟨hx, hb, hml, hown, hts⟩ hM ⟨callB_of n hts (gh_GI hw) rfl rfl rfl (hts _ hw.2.1) (hts _ hl) hw.2.2 hf, h0, hts _ hi⟩ hp rfl hn hL.1 hst (lv_room hcat) hd ⟨by omega, by omega⟩
  · exact va_runIN (n := n) (host := host) ⟨hx, hb, hml, hown, hts⟩ hM ⟨va_cnB n hts (gh_GI hw) rfl rfl rfl (hK.2.2 _ hl) (hts _ hw.2.1) hw.2.2 hf, h0, hts _ hi⟩ hp rfl hn hL.1 hst (lv_room hcat) hd ⟨by omega, by omega⟩
theorem gh_obj (C : gh_X d z mm rm) {index a : Nat} (hl : Cond.methodLink mm.1.cls index objectInit ∈ gh_T) (hi : Cond.instanceMethod objectInit ∈ gh_T) (hcd : Cond.code objectInit ⟨#[0xb1]⟩ 1 none ∈ gh_T) (hcat : (rest.map fun v => v.category).sum ≤ 8) (hf : 1 ≤ rm.frames ∧ 20 ≤ rm.locals) (hd : decode mm.2.1 pc = .ok (.invokespecial index, 3)) (kk : gh_W l d z (pc + 3) ls rest g cb sb) : gh_W l d z pc ls (.ref a :: rest) g cb sb := by
  obtain ⟨p, e, R, s, m, args, below, meth, c, nL, Q⟩ := z
  obtain ⟨⟨hx, hb, hml, hown, hts⟩, hr, hlk, hK, hR, hnm⟩ := C
  subst hR
  intro H locs la ce sl hG hlo hL i9 j9
  have h8 : 2 * (F0 m pc la (.ref a :: rest)).monitorRoom + (rest.map fun v => v.category).sum ≤ 8 := lv_room hcat
  exact W.objInit hx hb hown (hts _ hl) (hts _ hi) (hts _ hcd) rfl (hL.1.trans hml.symm) rfl hd hf.1 (by omega) (kk H locs la ce sl hG hlo hL i9 j9)
theorem gh_iret (C : gh_X d z mm rm) {Po : Option Value → gh_H → Prop} (hQ : gh_Q d z Po) {v : Int32} (hi : mm.2.2.2 = some .int) (hd : decode mm.2.1 pc = .ok (.ireturn, 1)) (hp : Po (some (.int v)) g) : gh_W l d z pc ls [.int v] g cb sb := by
  obtain ⟨p, e, R, s, m, args, below, meth, c, nL, Q⟩ := z
  obtain ⟨⟨hx, hb, hml, hown, hts⟩, hr, hlk, hK, hR, hnm⟩ := C
  have hQ : Q = _ := hQ
  subst hQ
  intro H locs la ce sl hG hlo hL i9 j9
  refine W.widen (k := R.cells) (n := R.slots) (by omega) (by omega) ?_
  exact W.iret (v := v) hx hb (hr.trans hi) (fun t ht hW => ⟨_, g, rfl, hp, by rw [ht]; exact hG⟩) hlo hd
theorem gh_zret (C : gh_X d z mm rm) {Po : Option Value → gh_H → Prop} (hQ : gh_Q d z Po) {v : Int32} (hi : mm.2.2.2 = some .boolean) (h01 : v = 0 ∨ v = 1) (hd : decode mm.2.1 pc = .ok (.ireturn, 1)) (hp : Po (some (.int v)) g) : gh_W l d z pc ls [.int v] g cb sb := by
  obtain ⟨p, e, R, s, m, args, below, meth, c, nL, Q⟩ := z
  obtain ⟨⟨hx, hb, hml, hown, hts⟩, hr, hlk, hK, hR, hnm⟩ := C
  have hQ : Q = _ := hQ
  subst hQ
  intro H locs la ce sl hG hlo hL i9 j9
  refine W.widen (k := R.cells) (n := R.slots) (by omega) (by omega) ?_
  exact W.zret (v := v) hx hb (hr.trans hi) (by rcases h01 with rfl | rfl <;> rfl) (fun t ht hW => ⟨_, g, rfl, hp, by rw [ht]; exact hG⟩) hlo hd
theorem gh_vret (C : gh_X d z mm rm) {Po : Option Value → gh_H → Prop} (hQ : gh_Q d z Po) (hi : mm.2.2.2 = none) (hd : decode mm.2.1 pc = .ok (.return_, 1)) (hp : Po (none) g) : gh_W l d z pc ls [] g cb sb := by
  obtain ⟨p, e, R, s, m, args, below, meth, c, nL, Q⟩ := z
  obtain ⟨⟨hx, hb, hml, hown, hts⟩, hr, hlk, hK, hR, hnm⟩ := C
  have hQ : Q = _ := hQ
  subst hQ
  intro H locs la ce sl hG hlo hL i9 j9
  refine W.widen (k := R.cells) (n := R.slots) (by omega) (by omega) ?_
  exact W.vret hx hb (hr.trans hi) (fun t ht hW => ⟨_, g, rfl, hp, by rw [ht]; exact hG⟩) hlo hd
theorem gh_aret (C : gh_X d z mm rm) {Po : Option Value → gh_H → Prop} (hQ : gh_Q d z Po) {v : Value} {rt : FieldType} (hi : mm.2.2.2 = some rt) (hrt : (∃ n, rt = .object n) ∨ ∃ t, rt = .array t) (hv : v = .null ∨ ∃ a, v = .ref a) (hd : decode mm.2.1 pc = .ok (.areturn, 1)) (hp : Po (some v) g) : gh_W l d z pc ls [v] g cb sb := by
  obtain ⟨p, e, R, s, m, args, below, meth, c, nL, Q⟩ := z
  obtain ⟨⟨hx, hb, hml, hown, hts⟩, hr, hlk, hK, hR, hnm⟩ := C
  have hQ : Q = _ := hQ
  subst hQ
  intro H locs la ce sl hG hlo hL i9 j9
  refine W.widen (k := R.cells) (n := R.slots) (by omega) (by omega) ?_
  exact W.aret (v := v) hx hb (hr.trans hi) hrt hv (fun t ht hW => ⟨_, g, rfl, hp, by rw [ht]; exact hG⟩) hlo hd
end GH
end
section
theorem gh_nw_in : ∀ w ∈ gh_nw, w ∈ lw_tbl := fun w hw => by
  have h : gh_nw = [114, 116, 118, 120, 259, 351, 354, 588, 609, 689, 694, 695, 703, 730].filterMap (fun i => lw_tbl[i]?) := by decide +kernel
  rw [h] at hw
  obtain ⟨i, -, hi⟩ := List.mem_filterMap.mp hw
  exact List.mem_of_getElem? hi
theorem wG : ∀ w ∈ u_ws RG FG 10, w ∈ gh_T := fun w hw => by
  have h : u_ws RG FG 10 = [276, 278, 280, 282, 284, 286, 288, 290, 292, 294].filterMap (fun i => lw_tbl[i]?) := by decide +kernel
  have hg : (u_ws RG FG 10).all goodWord = true := by decide +kernel
  refine List.mem_filter.mpr ⟨?_, List.all_eq_true.mp hg w hw⟩
  rw [h] at hw
  obtain ⟨i, -, hi⟩ := List.mem_filterMap.mp hw
  exact List.mem_of_getElem? hi
theorem wS : ∀ w ∈ u_ws RS FS 6, w ∈ gh_T := fun w hw => by
  have h : u_ws RS FS 6 = [98, 100, 102, 104, 106, 108].filterMap (fun i => lw_tbl[i]?) := by decide +kernel
  have hg : (u_ws RS FS 6).all goodWord = true := by decide +kernel
  refine List.mem_filter.mpr ⟨?_, List.all_eq_true.mp hg w hw⟩
  rw [h] at hw
  obtain ⟨i, -, hi⟩ := List.mem_filterMap.mp hw
  exact List.mem_of_getElem? hi
theorem wB : ∀ w ∈ u_ws RB FB 7, w ∈ gh_T := fun w hw => by
  have h : u_ws RB FB 7 = [140, 142, 144, 146, 148, 150, 152].filterMap (fun i => lw_tbl[i]?) := by decide +kernel
  have hg : (u_ws RB FB 7).all goodWord = true := by decide +kernel
  refine List.mem_filter.mpr ⟨?_, List.all_eq_true.mp hg w hw⟩
  rw [h] at hw
  obtain ⟨i, -, hi⟩ := List.mem_filterMap.mp hw
  exact List.mem_of_getElem? hi
theorem wE : ∀ w ∈ u_ws RE FE 9, w ∈ gh_T := fun w hw => by
  have h : u_ws RE FE 9 = [204, 206, 208, 210, 212, 214, 216, 218, 220].filterMap (fun i => lw_tbl[i]?) := by decide +kernel
  have hg : (u_ws RE FE 9).all goodWord = true := by decide +kernel
  refine List.mem_filter.mpr ⟨?_, List.all_eq_true.mp hg w hw⟩
  rw [h] at hw
  obtain ⟨i, -, hi⟩ := List.mem_filterMap.mp hw
  exact List.mem_of_getElem? hi
theorem wT : ∀ w ∈ u_ws RT FT 4, w ∈ gh_T := fun w hw => by
  have h : u_ws RT FT 4 = [170, 172, 174, 176].filterMap (fun i => lw_tbl[i]?) := by decide +kernel
  have hg : (u_ws RT FT 4).all goodWord = true := by decide +kernel
  refine List.mem_filter.mpr ⟨?_, List.all_eq_true.mp hg w hw⟩
  rw [h] at hw
  obtain ⟨i, -, hi⟩ := List.mem_filterMap.mp hw
  exact List.mem_of_getElem? hi
theorem wK : ∀ w ∈ u_ws RK FK 6, w ∈ gh_T := fun w hw => by
  have h : u_ws RK FK 6 = [490, 492, 494, 496, 498, 500].filterMap (fun i => lw_tbl[i]?) := by decide +kernel
  have hg : (u_ws RK FK 6).all goodWord = true := by decide +kernel
  refine List.mem_filter.mpr ⟨?_, List.all_eq_true.mp hg w hw⟩
  rw [h] at hw
  obtain ⟨i, -, hi⟩ := List.mem_filterMap.mp hw
  exact List.mem_of_getElem? hi
theorem wP : ∀ w ∈ u_ws RP FP 3, w ∈ gh_T := fun w hw => by
  have h : u_ws RP FP 3 = [529, 531, 533].filterMap (fun i => lw_tbl[i]?) := by decide +kernel
  have hg : (u_ws RP FP 3).all goodWord = true := by decide +kernel
  refine List.mem_filter.mpr ⟨?_, List.all_eq_true.mp hg w hw⟩
  rw [h] at hw
  obtain ⟨i, -, hi⟩ := List.mem_filterMap.mp hw
  exact List.mem_of_getElem? hi
theorem wR : ∀ w ∈ u_ws RR FR 52, w ∈ gh_T := fun w hw => by
  have h : u_ws RR FR 52 = [815, 817, 819, 821, 823, 825, 827, 829, 831, 833, 835, 837, 839, 841, 843, 845, 847, 849, 851, 853, 855, 857, 859, 861, 863, 865, 867, 869, 871, 873, 875, 877, 879, 881, 883, 885, 887, 889, 891, 893, 895, 897, 899, 901, 903, 905, 907, 909, 911, 913, 915, 917].filterMap (fun i => lw_tbl[i]?) := by decide +kernel
  have hg : (u_ws RR FR 52).all goodWord = true := by decide +kernel
  refine List.mem_filter.mpr ⟨?_, List.all_eq_true.mp hg w hw⟩
  rw [h] at hw
  obtain ⟨i, -, hi⟩ := List.mem_filterMap.mp hw
  exact List.mem_of_getElem? hi
theorem fS_11 : gh_F "RatchetGroup$Secrets" 11 1 0 := ⟨(RS, FS, 6), rfl, by decide, wS, Or.inl (gh_in 92 (by decide +kernel) rfl)⟩
theorem pS_11 : gh_FP "RatchetGroup$Secrets" 11 1 0 (.array .byte) false := ⟨(RS, FS, 6), tS, rfl, by decide, wS, tS_ok, nS, rfl, rfl, Or.inl ⟨(gh_in 92 (by decide +kernel) rfl), fun h => Bool.noConfusion h⟩⟩
theorem fS_25 : gh_F "RatchetGroup$Secrets" 25 1 1 := ⟨(RS, FS, 6), rfl, by decide, wS, Or.inl (gh_in 93 (by decide +kernel) rfl)⟩
theorem pS_25 : gh_FP "RatchetGroup$Secrets" 25 1 1 .int false := ⟨(RS, FS, 6), tS, rfl, by decide, wS, tS_ok, nS, rfl, rfl, Or.inl ⟨(gh_in 93 (by decide +kernel) rfl), fun h => Bool.noConfusion h⟩⟩
theorem fS_15 : gh_F "RatchetGroup$Secrets" 15 1 2 := ⟨(RS, FS, 6), rfl, by decide, wS, Or.inl (gh_in 94 (by decide +kernel) rfl)⟩
theorem pS_15 : gh_FP "RatchetGroup$Secrets" 15 1 2 (.array .int) false := ⟨(RS, FS, 6), tS, rfl, by decide, wS, tS_ok, nS, rfl, rfl, Or.inl ⟨(gh_in 94 (by decide +kernel) rfl), fun h => Bool.noConfusion h⟩⟩
theorem fS_19 : gh_F "RatchetGroup$Secrets" 19 1 3 := ⟨(RS, FS, 6), rfl, by decide, wS, Or.inl (gh_in 95 (by decide +kernel) rfl)⟩
theorem pS_19 : gh_FP "RatchetGroup$Secrets" 19 1 3 (.array .int) false := ⟨(RS, FS, 6), tS, rfl, by decide, wS, tS_ok, nS, rfl, rfl, Or.inl ⟨(gh_in 95 (by decide +kernel) rfl), fun h => Bool.noConfusion h⟩⟩
theorem fS_22 : gh_F "RatchetGroup$Secrets" 22 1 4 := ⟨(RS, FS, 6), rfl, by decide, wS, Or.inl (gh_in 96 (by decide +kernel) rfl)⟩
theorem pS_22 : gh_FP "RatchetGroup$Secrets" 22 1 4 (.array .int) false := ⟨(RS, FS, 6), tS, rfl, by decide, wS, tS_ok, nS, rfl, rfl, Or.inl ⟨(gh_in 96 (by decide +kernel) rfl), fun h => Bool.noConfusion h⟩⟩
theorem fS_47 : gh_F "RatchetGroup$Secrets" 47 1 5 := ⟨(RS, FS, 6), rfl, by decide, wS, Or.inl (gh_in 97 (by decide +kernel) rfl)⟩
theorem pS_47 : gh_FP "RatchetGroup$Secrets" 47 1 5 .int false := ⟨(RS, FS, 6), tS, rfl, by decide, wS, tS_ok, nS, rfl, rfl, Or.inl ⟨(gh_in 97 (by decide +kernel) rfl), fun h => Bool.noConfusion h⟩⟩
theorem fB_9 : gh_F "RatchetGroup$Member" 9 2 0 := ⟨(RB, FB, 7), rfl, by decide, wB, Or.inl (gh_in 129 (by decide +kernel) rfl)⟩
theorem pB_9 : gh_FP "RatchetGroup$Member" 9 2 0 .int false := ⟨(RB, FB, 7), tB, rfl, by decide, wB, tB_ok, nB, rfl, rfl, Or.inl ⟨(gh_in 129 (by decide +kernel) rfl), fun h => Bool.noConfusion h⟩⟩
theorem fG_161 : gh_F "RatchetGroup" 161 2 0 := ⟨(RB, FB, 7), rfl, by decide, wB, Or.inl (gh_in 130 (by decide +kernel) rfl)⟩
theorem pG_161 : gh_FP "RatchetGroup" 161 2 0 .int false := ⟨(RB, FB, 7), tB, rfl, by decide, wB, tB_ok, nB, rfl, rfl, Or.inl ⟨(gh_in 130 (by decide +kernel) rfl), fun h => Bool.noConfusion h⟩⟩
theorem fB_15 : gh_F "RatchetGroup$Member" 15 2 1 := ⟨(RB, FB, 7), rfl, by decide, wB, Or.inl (gh_in 131 (by decide +kernel) rfl)⟩
theorem pB_15 : gh_FP "RatchetGroup$Member" 15 2 1 .int false := ⟨(RB, FB, 7), tB, rfl, by decide, wB, tB_ok, nB, rfl, rfl, Or.inl ⟨(gh_in 131 (by decide +kernel) rfl), fun h => Bool.noConfusion h⟩⟩
theorem fG_110 : gh_F "RatchetGroup" 110 2 1 := ⟨(RB, FB, 7), rfl, by decide, wB, Or.inl (gh_in 132 (by decide +kernel) rfl)⟩
theorem pG_110 : gh_FP "RatchetGroup" 110 2 1 .int false := ⟨(RB, FB, 7), tB, rfl, by decide, wB, tB_ok, nB, rfl, rfl, Or.inl ⟨(gh_in 132 (by decide +kernel) rfl), fun h => Bool.noConfusion h⟩⟩
theorem fB_18 : gh_F "RatchetGroup$Member" 18 2 2 := ⟨(RB, FB, 7), rfl, by decide, wB, Or.inl (gh_in 133 (by decide +kernel) rfl)⟩
theorem pB_18 : gh_FP "RatchetGroup$Member" 18 2 2 .int false := ⟨(RB, FB, 7), tB, rfl, by decide, wB, tB_ok, nB, rfl, rfl, Or.inl ⟨(gh_in 133 (by decide +kernel) rfl), fun h => Bool.noConfusion h⟩⟩
theorem fG_190 : gh_F "RatchetGroup" 190 2 2 := ⟨(RB, FB, 7), rfl, by decide, wB, Or.inl (gh_in 134 (by decide +kernel) rfl)⟩
theorem pG_190 : gh_FP "RatchetGroup" 190 2 2 .int false := ⟨(RB, FB, 7), tB, rfl, by decide, wB, tB_ok, nB, rfl, rfl, Or.inl ⟨(gh_in 134 (by decide +kernel) rfl), fun h => Bool.noConfusion h⟩⟩
theorem fB_83 : gh_F "RatchetGroup$Member" 83 2 3 := ⟨(RB, FB, 7), rfl, by decide, wB, Or.inl (gh_in 135 (by decide +kernel) rfl)⟩
theorem pB_83 : gh_FP "RatchetGroup$Member" 83 2 3 .int false := ⟨(RB, FB, 7), tB, rfl, by decide, wB, tB_ok, nB, rfl, rfl, Or.inl ⟨(gh_in 135 (by decide +kernel) rfl), fun h => Bool.noConfusion h⟩⟩
theorem fG_181 : gh_F "RatchetGroup" 181 2 3 := ⟨(RB, FB, 7), rfl, by decide, wB, Or.inl (gh_in 136 (by decide +kernel) rfl)⟩
theorem pG_181 : gh_FP "RatchetGroup" 181 2 3 .int false := ⟨(RB, FB, 7), tB, rfl, by decide, wB, tB_ok, nB, rfl, rfl, Or.inl ⟨(gh_in 136 (by decide +kernel) rfl), fun h => Bool.noConfusion h⟩⟩
theorem fB_21 : gh_F "RatchetGroup$Member" 21 2 4 := ⟨(RB, FB, 7), rfl, by decide, wB, Or.inl (gh_in 137 (by decide +kernel) rfl)⟩
theorem pB_21 : gh_FP "RatchetGroup$Member" 21 2 4 (.array .int) true := ⟨(RB, FB, 7), tB, rfl, by decide, wB, tB_ok, nB, rfl, rfl, Or.inl ⟨(gh_in 137 (by decide +kernel) rfl), fun _ => rfl⟩⟩
theorem fB_25 : gh_F "RatchetGroup$Member" 25 2 5 := ⟨(RB, FB, 7), rfl, by decide, wB, Or.inl (gh_in 138 (by decide +kernel) rfl)⟩
theorem pB_25 : gh_FP "RatchetGroup$Member" 25 2 5 (.array .int) true := ⟨(RB, FB, 7), tB, rfl, by decide, wB, tB_ok, nB, rfl, rfl, Or.inl ⟨(gh_in 138 (by decide +kernel) rfl), fun _ => rfl⟩⟩
theorem fB_34 : gh_F "RatchetGroup$Member" 34 2 6 := ⟨(RB, FB, 7), rfl, by decide, wB, Or.inl (gh_in 139 (by decide +kernel) rfl)⟩
theorem pB_34 : gh_FP "RatchetGroup$Member" 34 2 6 .int false := ⟨(RB, FB, 7), tB, rfl, by decide, wB, tB_ok, nB, rfl, rfl, Or.inl ⟨(gh_in 139 (by decide +kernel) rfl), fun h => Bool.noConfusion h⟩⟩
theorem fT_27 : gh_F "RatchetGroup$Tree" 27 4 0 := ⟨(RT, FT, 4), rfl, by decide, wT, Or.inl (gh_in 164 (by decide +kernel) rfl)⟩
theorem pT_27 : gh_FP "RatchetGroup$Tree" 27 4 0 .int false := ⟨(RT, FT, 4), tT, rfl, by decide, wT, tT_ok, nT, rfl, rfl, Or.inl ⟨(gh_in 164 (by decide +kernel) rfl), fun h => Bool.noConfusion h⟩⟩
theorem fE_25 : gh_F "RatchetGroup$Epoch" 25 4 0 := ⟨(RT, FT, 4), rfl, by decide, wT, Or.inl (gh_in 165 (by decide +kernel) rfl)⟩
theorem pE_25 : gh_FP "RatchetGroup$Epoch" 25 4 0 .int false := ⟨(RT, FT, 4), tT, rfl, by decide, wT, tT_ok, nT, rfl, rfl, Or.inl ⟨(gh_in 165 (by decide +kernel) rfl), fun h => Bool.noConfusion h⟩⟩
theorem fG_212 : gh_F "RatchetGroup" 212 4 0 := ⟨(RT, FT, 4), rfl, by decide, wT, Or.inl (gh_in 166 (by decide +kernel) rfl)⟩
theorem pG_212 : gh_FP "RatchetGroup" 212 4 0 .int false := ⟨(RT, FT, 4), tT, rfl, by decide, wT, tT_ok, nT, rfl, rfl, Or.inl ⟨(gh_in 166 (by decide +kernel) rfl), fun h => Bool.noConfusion h⟩⟩
theorem fT_9 : gh_F "RatchetGroup$Tree" 9 4 1 := ⟨(RT, FT, 4), rfl, by decide, wT, Or.inl (gh_in 167 (by decide +kernel) rfl)⟩
theorem pT_9 : gh_FP "RatchetGroup$Tree" 9 4 1 (.array .int) true := ⟨(RT, FT, 4), tT, rfl, by decide, wT, tT_ok, nT, rfl, rfl, Or.inl ⟨(gh_in 167 (by decide +kernel) rfl), fun _ => rfl⟩⟩
theorem fT_15 : gh_F "RatchetGroup$Tree" 15 4 2 := ⟨(RT, FT, 4), rfl, by decide, wT, Or.inl (gh_in 168 (by decide +kernel) rfl)⟩
theorem pT_15 : gh_FP "RatchetGroup$Tree" 15 4 2 (.array .int) true := ⟨(RT, FT, 4), tT, rfl, by decide, wT, tT_ok, nT, rfl, rfl, Or.inl ⟨(gh_in 168 (by decide +kernel) rfl), fun _ => rfl⟩⟩
theorem fT_18 : gh_F "RatchetGroup$Tree" 18 4 3 := ⟨(RT, FT, 4), rfl, by decide, wT, Or.inl (gh_in 169 (by decide +kernel) rfl)⟩
theorem pT_18 : gh_FP "RatchetGroup$Tree" 18 4 3 (.array .int) true := ⟨(RT, FT, 4), tT, rfl, by decide, wT, tT_ok, nT, rfl, rfl, Or.inl ⟨(gh_in 169 (by decide +kernel) rfl), fun _ => rfl⟩⟩
theorem fE_15 : gh_F "RatchetGroup$Epoch" 15 3 0 := ⟨(RE, FE, 9), rfl, by decide, wE, Or.inl (gh_in 183 (by decide +kernel) rfl)⟩
theorem pE_15 : gh_FP "RatchetGroup$Epoch" 15 3 0 .int true := ⟨(RE, FE, 9), tE, rfl, by decide, wE, tE_ok, nE, rfl, rfl, Or.inl ⟨(gh_in 183 (by decide +kernel) rfl), fun _ => rfl⟩⟩
theorem fB_40 : gh_F "RatchetGroup$Member" 40 3 0 := ⟨(RE, FE, 9), rfl, by decide, wE, Or.inl (gh_in 184 (by decide +kernel) rfl)⟩
theorem fG_158 : gh_F "RatchetGroup" 158 3 0 := ⟨(RE, FE, 9), rfl, by decide, wE, Or.inl (gh_in 185 (by decide +kernel) rfl)⟩
theorem fE_18 : gh_F "RatchetGroup$Epoch" 18 3 1 := ⟨(RE, FE, 9), rfl, by decide, wE, Or.inl (gh_in 186 (by decide +kernel) rfl)⟩
theorem pE_18 : gh_FP "RatchetGroup$Epoch" 18 3 1 (.object "RatchetGroup$Tree") true := ⟨(RE, FE, 9), tE, rfl, by decide, wE, tE_ok, nE, rfl, rfl, Or.inl ⟨(gh_in 186 (by decide +kernel) rfl), fun _ => rfl⟩⟩
theorem fG_60 : gh_F "RatchetGroup" 60 3 1 := ⟨(RE, FE, 9), rfl, by decide, wE, Or.inl (gh_in 187 (by decide +kernel) rfl)⟩
theorem fB_46 : gh_F "RatchetGroup$Member" 46 3 1 := ⟨(RE, FE, 9), rfl, by decide, wE, Or.inl (gh_in 188 (by decide +kernel) rfl)⟩
theorem fE_22 : gh_F "RatchetGroup$Epoch" 22 3 2 := ⟨(RE, FE, 9), rfl, by decide, wE, Or.inl (gh_in 189 (by decide +kernel) rfl)⟩
theorem pE_22 : gh_FP "RatchetGroup$Epoch" 22 3 2 .int true := ⟨(RE, FE, 9), tE, rfl, by decide, wE, tE_ok, nE, rfl, rfl, Or.inl ⟨(gh_in 189 (by decide +kernel) rfl), fun _ => rfl⟩⟩
theorem fG_215 : gh_F "RatchetGroup" 215 3 2 := ⟨(RE, FE, 9), rfl, by decide, wE, Or.inl (gh_in 190 (by decide +kernel) rfl)⟩
theorem fE_9 : gh_F "RatchetGroup$Epoch" 9 3 3 := ⟨(RE, FE, 9), rfl, by decide, wE, Or.inl (gh_in 191 (by decide +kernel) rfl)⟩
theorem pE_9 : gh_FP "RatchetGroup$Epoch" 9 3 3 .int false := ⟨(RE, FE, 9), tE, rfl, by decide, wE, tE_ok, nE, rfl, rfl, Or.inl ⟨(gh_in 191 (by decide +kernel) rfl), fun h => Bool.noConfusion h⟩⟩
theorem fG_72 : gh_F "RatchetGroup" 72 3 3 := ⟨(RE, FE, 9), rfl, by decide, wE, Or.inl (gh_in 192 (by decide +kernel) rfl)⟩
theorem pG_72 : gh_FP "RatchetGroup" 72 3 3 .int false := ⟨(RE, FE, 9), tE, rfl, by decide, wE, tE_ok, nE, rfl, rfl, Or.inl ⟨(gh_in 192 (by decide +kernel) rfl), fun h => Bool.noConfusion h⟩⟩
theorem fB_45 : gh_F "RatchetGroup$Member" 45 3 3 := ⟨(RE, FE, 9), rfl, by decide, wE, Or.inl (gh_in 193 (by decide +kernel) rfl)⟩
theorem pB_45 : gh_FP "RatchetGroup$Member" 45 3 3 .int false := ⟨(RE, FE, 9), tE, rfl, by decide, wE, tE_ok, nE, rfl, rfl, Or.inl ⟨(gh_in 193 (by decide +kernel) rfl), fun h => Bool.noConfusion h⟩⟩
theorem fE_30 : gh_F "RatchetGroup$Epoch" 30 3 4 := ⟨(RE, FE, 9), rfl, by decide, wE, Or.inl (gh_in 194 (by decide +kernel) rfl)⟩
theorem pE_30 : gh_FP "RatchetGroup$Epoch" 30 3 4 .int false := ⟨(RE, FE, 9), tE, rfl, by decide, wE, tE_ok, nE, rfl, rfl, Or.inl ⟨(gh_in 194 (by decide +kernel) rfl), fun h => Bool.noConfusion h⟩⟩
theorem fB_104 : gh_F "RatchetGroup$Member" 104 3 4 := ⟨(RE, FE, 9), rfl, by decide, wE, Or.inl (gh_in 195 (by decide +kernel) rfl)⟩
theorem pB_104 : gh_FP "RatchetGroup$Member" 104 3 4 .int false := ⟨(RE, FE, 9), tE, rfl, by decide, wE, tE_ok, nE, rfl, rfl, Or.inl ⟨(gh_in 195 (by decide +kernel) rfl), fun h => Bool.noConfusion h⟩⟩
theorem fG_218 : gh_F "RatchetGroup" 218 3 4 := ⟨(RE, FE, 9), rfl, by decide, wE, Or.inl (gh_in 196 (by decide +kernel) rfl)⟩
theorem pG_218 : gh_FP "RatchetGroup" 218 3 4 .int false := ⟨(RE, FE, 9), tE, rfl, by decide, wE, tE_ok, nE, rfl, rfl, Or.inl ⟨(gh_in 196 (by decide +kernel) rfl), fun h => Bool.noConfusion h⟩⟩
theorem fB_70 : gh_F "RatchetGroup$Member" 70 3 5 := ⟨(RE, FE, 9), rfl, by decide, wE, Or.inl (gh_in 197 (by decide +kernel) rfl)⟩
theorem pB_70 : gh_FP "RatchetGroup$Member" 70 3 5 .int false := ⟨(RE, FE, 9), tE, rfl, by decide, wE, tE_ok, nE, rfl, rfl, Or.inl ⟨(gh_in 197 (by decide +kernel) rfl), fun h => Bool.noConfusion h⟩⟩
theorem fG_132 : gh_F "RatchetGroup" 132 3 5 := ⟨(RE, FE, 9), rfl, by decide, wE, Or.inl (gh_in 198 (by decide +kernel) rfl)⟩
theorem pG_132 : gh_FP "RatchetGroup" 132 3 5 .int false := ⟨(RE, FE, 9), tE, rfl, by decide, wE, tE_ok, nE, rfl, rfl, Or.inl ⟨(gh_in 198 (by decide +kernel) rfl), fun h => Bool.noConfusion h⟩⟩
theorem fB_76 : gh_F "RatchetGroup$Member" 76 3 6 := ⟨(RE, FE, 9), rfl, by decide, wE, Or.inl (gh_in 199 (by decide +kernel) rfl)⟩
theorem pB_76 : gh_FP "RatchetGroup$Member" 76 3 6 .int false := ⟨(RE, FE, 9), tE, rfl, by decide, wE, tE_ok, nE, rfl, rfl, Or.inl ⟨(gh_in 199 (by decide +kernel) rfl), fun h => Bool.noConfusion h⟩⟩
theorem fG_135 : gh_F "RatchetGroup" 135 3 6 := ⟨(RE, FE, 9), rfl, by decide, wE, Or.inl (gh_in 200 (by decide +kernel) rfl)⟩
theorem pG_135 : gh_FP "RatchetGroup" 135 3 6 .int false := ⟨(RE, FE, 9), tE, rfl, by decide, wE, tE_ok, nE, rfl, rfl, Or.inl ⟨(gh_in 200 (by decide +kernel) rfl), fun h => Bool.noConfusion h⟩⟩
theorem fG_138 : gh_F "RatchetGroup" 138 3 7 := ⟨(RE, FE, 9), rfl, by decide, wE, Or.inl (gh_in 201 (by decide +kernel) rfl)⟩
theorem pG_138 : gh_FP "RatchetGroup" 138 3 7 .int false := ⟨(RE, FE, 9), tE, rfl, by decide, wE, tE_ok, nE, rfl, rfl, Or.inl ⟨(gh_in 201 (by decide +kernel) rfl), fun h => Bool.noConfusion h⟩⟩
theorem fB_93 : gh_F "RatchetGroup$Member" 93 3 7 := ⟨(RE, FE, 9), rfl, by decide, wE, Or.inl (gh_in 202 (by decide +kernel) rfl)⟩
theorem pB_93 : gh_FP "RatchetGroup$Member" 93 3 7 .int false := ⟨(RE, FE, 9), tE, rfl, by decide, wE, tE_ok, nE, rfl, rfl, Or.inl ⟨(gh_in 202 (by decide +kernel) rfl), fun h => Bool.noConfusion h⟩⟩
theorem fG_221 : gh_F "RatchetGroup" 221 3 8 := ⟨(RE, FE, 9), rfl, by decide, wE, Or.inl (gh_in 203 (by decide +kernel) rfl)⟩
theorem pG_221 : gh_FP "RatchetGroup" 221 3 8 .int false := ⟨(RE, FE, 9), tE, rfl, by decide, wE, tE_ok, nE, rfl, rfl, Or.inl ⟨(gh_in 203 (by decide +kernel) rfl), fun h => Bool.noConfusion h⟩⟩
theorem fG_12 : gh_F "RatchetGroup" 12 0 0 := ⟨(RG, FG, 10), rfl, by decide, wG, Or.inl (gh_in 266 (by decide +kernel) rfl)⟩
theorem pG_12 : gh_FP "RatchetGroup" 12 0 0 (.object "RatchetGroup$Secrets") true := ⟨(RG, FG, 10), tG, rfl, by decide, wG, tG_ok, nG, rfl, rfl, Or.inl ⟨(gh_in 266 (by decide +kernel) rfl), fun _ => rfl⟩⟩
theorem fG_18 : gh_F "RatchetGroup" 18 0 1 := ⟨(RG, FG, 10), rfl, by decide, wG, Or.inl (gh_in 267 (by decide +kernel) rfl)⟩
theorem pG_18 : gh_FP "RatchetGroup" 18 0 1 (.array (.object "RatchetGroup$Member")) true := ⟨(RG, FG, 10), tG, rfl, by decide, wG, tG_ok, nG, rfl, rfl, Or.inl ⟨(gh_in 267 (by decide +kernel) rfl), fun _ => rfl⟩⟩
theorem fG_24 : gh_F "RatchetGroup" 24 0 2 := ⟨(RG, FG, 10), rfl, by decide, wG, Or.inl (gh_in 268 (by decide +kernel) rfl)⟩
theorem pG_24 : gh_FP "RatchetGroup" 24 0 2 (.array (.object "RatchetGroup$Epoch")) true := ⟨(RG, FG, 10), tG, rfl, by decide, wG, tG_ok, nG, rfl, rfl, Or.inl ⟨(gh_in 268 (by decide +kernel) rfl), fun _ => rfl⟩⟩
theorem fG_76 : gh_F "RatchetGroup" 76 0 3 := ⟨(RG, FG, 10), rfl, by decide, wG, Or.inl (gh_in 269 (by decide +kernel) rfl)⟩
theorem pG_76 : gh_FP "RatchetGroup" 76 0 3 .int false := ⟨(RG, FG, 10), tG, rfl, by decide, wG, tG_ok, nG, rfl, rfl, Or.inl ⟨(gh_in 269 (by decide +kernel) rfl), fun h => Bool.noConfusion h⟩⟩
theorem fG_30 : gh_F "RatchetGroup" 30 0 4 := ⟨(RG, FG, 10), rfl, by decide, wG, Or.inl (gh_in 270 (by decide +kernel) rfl)⟩
theorem pG_30 : gh_FP "RatchetGroup" 30 0 4 (.array (.object "RatchetGroup$KeyPackage")) true := ⟨(RG, FG, 10), tG, rfl, by decide, wG, tG_ok, nG, rfl, rfl, Or.inl ⟨(gh_in 270 (by decide +kernel) rfl), fun _ => rfl⟩⟩
theorem fG_90 : gh_F "RatchetGroup" 90 0 5 := ⟨(RG, FG, 10), rfl, by decide, wG, Or.inl (gh_in 271 (by decide +kernel) rfl)⟩
theorem pG_90 : gh_FP "RatchetGroup" 90 0 5 .int false := ⟨(RG, FG, 10), tG, rfl, by decide, wG, tG_ok, nG, rfl, rfl, Or.inl ⟨(gh_in 271 (by decide +kernel) rfl), fun h => Bool.noConfusion h⟩⟩
theorem fG_36 : gh_F "RatchetGroup" 36 0 6 := ⟨(RG, FG, 10), rfl, by decide, wG, Or.inl (gh_in 272 (by decide +kernel) rfl)⟩
theorem pG_36 : gh_FP "RatchetGroup" 36 0 6 (.array (.object "RatchetGroup$Proposal")) true := ⟨(RG, FG, 10), tG, rfl, by decide, wG, tG_ok, nG, rfl, rfl, Or.inl ⟨(gh_in 272 (by decide +kernel) rfl), fun _ => rfl⟩⟩
theorem fG_152 : gh_F "RatchetGroup" 152 0 7 := ⟨(RG, FG, 10), rfl, by decide, wG, Or.inl (gh_in 273 (by decide +kernel) rfl)⟩
theorem pG_152 : gh_FP "RatchetGroup" 152 0 7 .int false := ⟨(RG, FG, 10), tG, rfl, by decide, wG, tG_ok, nG, rfl, rfl, Or.inl ⟨(gh_in 273 (by decide +kernel) rfl), fun h => Bool.noConfusion h⟩⟩
theorem fG_40 : gh_F "RatchetGroup" 40 0 8 := ⟨(RG, FG, 10), rfl, by decide, wG, Or.inl (gh_in 274 (by decide +kernel) rfl)⟩
theorem pG_40 : gh_FP "RatchetGroup" 40 0 8 (.array .int) true := ⟨(RG, FG, 10), tG, rfl, by decide, wG, tG_ok, nG, rfl, rfl, Or.inl ⟨(gh_in 274 (by decide +kernel) rfl), fun _ => rfl⟩⟩
theorem fG_44 : gh_F "RatchetGroup" 44 0 9 := ⟨(RG, FG, 10), rfl, by decide, wG, Or.inl (gh_in 275 (by decide +kernel) rfl)⟩
theorem pG_44 : gh_FP "RatchetGroup" 44 0 9 (.array .int) true := ⟨(RG, FG, 10), tG, rfl, by decide, wG, tG_ok, nG, rfl, rfl, Or.inl ⟨(gh_in 275 (by decide +kernel) rfl), fun _ => rfl⟩⟩
theorem fK_18 : gh_F "RatchetGroup$KeyPackage" 18 5 0 := ⟨(RK, FK, 6), rfl, by decide, wK, Or.inl (gh_in 479 (by decide +kernel) rfl)⟩
theorem pK_18 : gh_FP "RatchetGroup$KeyPackage" 18 5 0 .int true := ⟨(RK, FK, 6), tK, rfl, by decide, wK, tK_ok, nK, rfl, rfl, Or.inl ⟨(gh_in 479 (by decide +kernel) rfl), fun _ => rfl⟩⟩
theorem fG_263 : gh_F "RatchetGroup" 263 5 0 := ⟨(RK, FK, 6), rfl, by decide, wK, Or.inl (gh_in 480 (by decide +kernel) rfl)⟩
theorem fK_21 : gh_F "RatchetGroup$KeyPackage" 21 5 1 := ⟨(RK, FK, 6), rfl, by decide, wK, Or.inl (gh_in 481 (by decide +kernel) rfl)⟩
theorem pK_21 : gh_FP "RatchetGroup$KeyPackage" 21 5 1 .int true := ⟨(RK, FK, 6), tK, rfl, by decide, wK, tK_ok, nK, rfl, rfl, Or.inl ⟨(gh_in 481 (by decide +kernel) rfl), fun _ => rfl⟩⟩
theorem fG_305 : gh_F "RatchetGroup" 305 5 1 := ⟨(RK, FK, 6), rfl, by decide, wK, Or.inl (gh_in 482 (by decide +kernel) rfl)⟩
theorem fK_24 : gh_F "RatchetGroup$KeyPackage" 24 5 2 := ⟨(RK, FK, 6), rfl, by decide, wK, Or.inl (gh_in 483 (by decide +kernel) rfl)⟩
theorem pK_24 : gh_FP "RatchetGroup$KeyPackage" 24 5 2 .int true := ⟨(RK, FK, 6), tK, rfl, by decide, wK, tK_ok, nK, rfl, rfl, Or.inl ⟨(gh_in 483 (by decide +kernel) rfl), fun _ => rfl⟩⟩
theorem fG_272 : gh_F "RatchetGroup" 272 5 2 := ⟨(RK, FK, 6), rfl, by decide, wK, Or.inl (gh_in 484 (by decide +kernel) rfl)⟩
theorem fK_9 : gh_F "RatchetGroup$KeyPackage" 9 5 3 := ⟨(RK, FK, 6), rfl, by decide, wK, Or.inl (gh_in 485 (by decide +kernel) rfl)⟩
theorem pK_9 : gh_FP "RatchetGroup$KeyPackage" 9 5 3 .int false := ⟨(RK, FK, 6), tK, rfl, by decide, wK, tK_ok, nK, rfl, rfl, Or.inl ⟨(gh_in 485 (by decide +kernel) rfl), fun h => Bool.noConfusion h⟩⟩
theorem fG_262 : gh_F "RatchetGroup" 262 5 3 := ⟨(RK, FK, 6), rfl, by decide, wK, Or.inl (gh_in 486 (by decide +kernel) rfl)⟩
theorem pG_262 : gh_FP "RatchetGroup" 262 5 3 .int false := ⟨(RK, FK, 6), tK, rfl, by decide, wK, tK_ok, nK, rfl, rfl, Or.inl ⟨(gh_in 486 (by decide +kernel) rfl), fun h => Bool.noConfusion h⟩⟩
theorem fK_15 : gh_F "RatchetGroup$KeyPackage" 15 5 4 := ⟨(RK, FK, 6), rfl, by decide, wK, Or.inl (gh_in 487 (by decide +kernel) rfl)⟩
theorem pK_15 : gh_FP "RatchetGroup$KeyPackage" 15 5 4 .int false := ⟨(RK, FK, 6), tK, rfl, by decide, wK, tK_ok, nK, rfl, rfl, Or.inl ⟨(gh_in 487 (by decide +kernel) rfl), fun h => Bool.noConfusion h⟩⟩
theorem fG_278 : gh_F "RatchetGroup" 278 5 4 := ⟨(RK, FK, 6), rfl, by decide, wK, Or.inl (gh_in 488 (by decide +kernel) rfl)⟩
theorem pG_278 : gh_FP "RatchetGroup" 278 5 4 .int false := ⟨(RK, FK, 6), tK, rfl, by decide, wK, tK_ok, nK, rfl, rfl, Or.inl ⟨(gh_in 488 (by decide +kernel) rfl), fun h => Bool.noConfusion h⟩⟩
theorem fG_314 : gh_F "RatchetGroup" 314 5 5 := ⟨(RK, FK, 6), rfl, by decide, wK, Or.inl (gh_in 489 (by decide +kernel) rfl)⟩
theorem pG_314 : gh_FP "RatchetGroup" 314 5 5 .boolean false := ⟨(RK, FK, 6), tK, rfl, by decide, wK, tK_ok, nK, rfl, rfl, Or.inl ⟨(gh_in 489 (by decide +kernel) rfl), fun h => Bool.noConfusion h⟩⟩
theorem fP_7 : gh_F "RatchetGroup$Proposal" 7 6 0 := ⟨(RP, FP, 3), rfl, by decide, wP, Or.inl (gh_in 523 (by decide +kernel) rfl)⟩
theorem pP_7 : gh_FP "RatchetGroup$Proposal" 7 6 0 .int true := ⟨(RP, FP, 3), tP, rfl, by decide, wP, tP_ok, nP, rfl, rfl, Or.inl ⟨(gh_in 523 (by decide +kernel) rfl), fun _ => rfl⟩⟩
theorem fG_227 : gh_F "RatchetGroup" 227 6 0 := ⟨(RP, FP, 3), rfl, by decide, wP, Or.inl (gh_in 524 (by decide +kernel) rfl)⟩
theorem fP_13 : gh_F "RatchetGroup$Proposal" 13 6 1 := ⟨(RP, FP, 3), rfl, by decide, wP, Or.inl (gh_in 525 (by decide +kernel) rfl)⟩
theorem pP_13 : gh_FP "RatchetGroup$Proposal" 13 6 1 .int true := ⟨(RP, FP, 3), tP, rfl, by decide, wP, tP_ok, nP, rfl, rfl, Or.inl ⟨(gh_in 525 (by decide +kernel) rfl), fun _ => rfl⟩⟩
theorem fG_230 : gh_F "RatchetGroup" 230 6 1 := ⟨(RP, FP, 3), rfl, by decide, wP, Or.inl (gh_in 526 (by decide +kernel) rfl)⟩
theorem fP_16 : gh_F "RatchetGroup$Proposal" 16 6 2 := ⟨(RP, FP, 3), rfl, by decide, wP, Or.inl (gh_in 527 (by decide +kernel) rfl)⟩
theorem pP_16 : gh_FP "RatchetGroup$Proposal" 16 6 2 .int true := ⟨(RP, FP, 3), tP, rfl, by decide, wP, tP_ok, nP, rfl, rfl, Or.inl ⟨(gh_in 527 (by decide +kernel) rfl), fun _ => rfl⟩⟩
theorem fG_251 : gh_F "RatchetGroup" 251 6 2 := ⟨(RP, FP, 3), rfl, by decide, wP, Or.inl (gh_in 528 (by decide +kernel) rfl)⟩
theorem fR_155 : gh_F "RatchetGroupModel" 155 7 0 := ⟨(RR, FR, 52), rfl, by decide, wR, Or.inl (gh_in 763 (by decide +kernel) rfl)⟩
theorem pR_155 : gh_FP "RatchetGroupModel" 155 7 0 .int false := ⟨(RR, FR, 52), tR, rfl, by decide, wR, tR_ok, nR, rfl, rfl, Or.inl ⟨(gh_in 763 (by decide +kernel) rfl), fun h => Bool.noConfusion h⟩⟩
theorem fR_158 : gh_F "RatchetGroupModel" 158 7 1 := ⟨(RR, FR, 52), rfl, by decide, wR, Or.inl (gh_in 764 (by decide +kernel) rfl)⟩
theorem pR_158 : gh_FP "RatchetGroupModel" 158 7 1 .int false := ⟨(RR, FR, 52), tR, rfl, by decide, wR, tR_ok, nR, rfl, rfl, Or.inl ⟨(gh_in 764 (by decide +kernel) rfl), fun h => Bool.noConfusion h⟩⟩
theorem fR_7 : gh_F "RatchetGroupModel" 7 7 2 := ⟨(RR, FR, 52), rfl, by decide, wR, Or.inl (gh_in 765 (by decide +kernel) rfl)⟩
theorem pR_7 : gh_FP "RatchetGroupModel" 7 7 2 (.array .int) true := ⟨(RR, FR, 52), tR, rfl, by decide, wR, tR_ok, nR, rfl, rfl, Or.inl ⟨(gh_in 765 (by decide +kernel) rfl), fun _ => rfl⟩⟩
theorem fR_13 : gh_F "RatchetGroupModel" 13 7 3 := ⟨(RR, FR, 52), rfl, by decide, wR, Or.inl (gh_in 766 (by decide +kernel) rfl)⟩
theorem pR_13 : gh_FP "RatchetGroupModel" 13 7 3 (.array .int) true := ⟨(RR, FR, 52), tR, rfl, by decide, wR, tR_ok, nR, rfl, rfl, Or.inl ⟨(gh_in 766 (by decide +kernel) rfl), fun _ => rfl⟩⟩
theorem fR_16 : gh_F "RatchetGroupModel" 16 7 4 := ⟨(RR, FR, 52), rfl, by decide, wR, Or.inl (gh_in 767 (by decide +kernel) rfl)⟩
theorem pR_16 : gh_FP "RatchetGroupModel" 16 7 4 (.array .int) true := ⟨(RR, FR, 52), tR, rfl, by decide, wR, tR_ok, nR, rfl, rfl, Or.inl ⟨(gh_in 767 (by decide +kernel) rfl), fun _ => rfl⟩⟩
theorem fR_19 : gh_F "RatchetGroupModel" 19 7 5 := ⟨(RR, FR, 52), rfl, by decide, wR, Or.inl (gh_in 768 (by decide +kernel) rfl)⟩
theorem pR_19 : gh_FP "RatchetGroupModel" 19 7 5 (.array .boolean) true := ⟨(RR, FR, 52), tR, rfl, by decide, wR, tR_ok, nR, rfl, rfl, Or.inl ⟨(gh_in 768 (by decide +kernel) rfl), fun _ => rfl⟩⟩
theorem fR_23 : gh_F "RatchetGroupModel" 23 7 6 := ⟨(RR, FR, 52), rfl, by decide, wR, Or.inl (gh_in 769 (by decide +kernel) rfl)⟩
theorem pR_23 : gh_FP "RatchetGroupModel" 23 7 6 (.array .boolean) true := ⟨(RR, FR, 52), tR, rfl, by decide, wR, tR_ok, nR, rfl, rfl, Or.inl ⟨(gh_in 769 (by decide +kernel) rfl), fun _ => rfl⟩⟩
theorem fR_161 : gh_F "RatchetGroupModel" 161 7 7 := ⟨(RR, FR, 52), rfl, by decide, wR, Or.inl (gh_in 770 (by decide +kernel) rfl)⟩
theorem pR_161 : gh_FP "RatchetGroupModel" 161 7 7 .int false := ⟨(RR, FR, 52), tR, rfl, by decide, wR, tR_ok, nR, rfl, rfl, Or.inl ⟨(gh_in 770 (by decide +kernel) rfl), fun h => Bool.noConfusion h⟩⟩
theorem fR_26 : gh_F "RatchetGroupModel" 26 7 8 := ⟨(RR, FR, 52), rfl, by decide, wR, Or.inl (gh_in 771 (by decide +kernel) rfl)⟩
theorem pR_26 : gh_FP "RatchetGroupModel" 26 7 8 (.array .int) true := ⟨(RR, FR, 52), tR, rfl, by decide, wR, tR_ok, nR, rfl, rfl, Or.inl ⟨(gh_in 771 (by decide +kernel) rfl), fun _ => rfl⟩⟩
theorem fR_29 : gh_F "RatchetGroupModel" 29 7 9 := ⟨(RR, FR, 52), rfl, by decide, wR, Or.inl (gh_in 772 (by decide +kernel) rfl)⟩
theorem pR_29 : gh_FP "RatchetGroupModel" 29 7 9 (.array .int) true := ⟨(RR, FR, 52), tR, rfl, by decide, wR, tR_ok, nR, rfl, rfl, Or.inl ⟨(gh_in 772 (by decide +kernel) rfl), fun _ => rfl⟩⟩
theorem fR_32 : gh_F "RatchetGroupModel" 32 7 10 := ⟨(RR, FR, 52), rfl, by decide, wR, Or.inl (gh_in 773 (by decide +kernel) rfl)⟩
theorem pR_32 : gh_FP "RatchetGroupModel" 32 7 10 (.array .int) true := ⟨(RR, FR, 52), tR, rfl, by decide, wR, tR_ok, nR, rfl, rfl, Or.inl ⟨(gh_in 773 (by decide +kernel) rfl), fun _ => rfl⟩⟩
theorem fR_35 : gh_F "RatchetGroupModel" 35 7 11 := ⟨(RR, FR, 52), rfl, by decide, wR, Or.inl (gh_in 774 (by decide +kernel) rfl)⟩
theorem pR_35 : gh_FP "RatchetGroupModel" 35 7 11 (.array .int) true := ⟨(RR, FR, 52), tR, rfl, by decide, wR, tR_ok, nR, rfl, rfl, Or.inl ⟨(gh_in 774 (by decide +kernel) rfl), fun _ => rfl⟩⟩
theorem fR_151 : gh_F "RatchetGroupModel" 151 7 12 := ⟨(RR, FR, 52), rfl, by decide, wR, Or.inl (gh_in 775 (by decide +kernel) rfl)⟩
theorem pR_151 : gh_FP "RatchetGroupModel" 151 7 12 .int false := ⟨(RR, FR, 52), tR, rfl, by decide, wR, tR_ok, nR, rfl, rfl, Or.inl ⟨(gh_in 775 (by decide +kernel) rfl), fun h => Bool.noConfusion h⟩⟩
theorem fR_38 : gh_F "RatchetGroupModel" 38 7 13 := ⟨(RR, FR, 52), rfl, by decide, wR, Or.inl (gh_in 776 (by decide +kernel) rfl)⟩
theorem pR_38 : gh_FP "RatchetGroupModel" 38 7 13 (.array .int) true := ⟨(RR, FR, 52), tR, rfl, by decide, wR, tR_ok, nR, rfl, rfl, Or.inl ⟨(gh_in 776 (by decide +kernel) rfl), fun _ => rfl⟩⟩
theorem fR_41 : gh_F "RatchetGroupModel" 41 7 14 := ⟨(RR, FR, 52), rfl, by decide, wR, Or.inl (gh_in 777 (by decide +kernel) rfl)⟩
theorem pR_41 : gh_FP "RatchetGroupModel" 41 7 14 (.array .int) true := ⟨(RR, FR, 52), tR, rfl, by decide, wR, tR_ok, nR, rfl, rfl, Or.inl ⟨(gh_in 777 (by decide +kernel) rfl), fun _ => rfl⟩⟩
theorem fR_44 : gh_F "RatchetGroupModel" 44 7 15 := ⟨(RR, FR, 52), rfl, by decide, wR, Or.inl (gh_in 778 (by decide +kernel) rfl)⟩
theorem pR_44 : gh_FP "RatchetGroupModel" 44 7 15 (.array .int) true := ⟨(RR, FR, 52), tR, rfl, by decide, wR, tR_ok, nR, rfl, rfl, Or.inl ⟨(gh_in 778 (by decide +kernel) rfl), fun _ => rfl⟩⟩
theorem fR_47 : gh_F "RatchetGroupModel" 47 7 16 := ⟨(RR, FR, 52), rfl, by decide, wR, Or.inl (gh_in 779 (by decide +kernel) rfl)⟩
theorem pR_47 : gh_FP "RatchetGroupModel" 47 7 16 (.array .int) true := ⟨(RR, FR, 52), tR, rfl, by decide, wR, tR_ok, nR, rfl, rfl, Or.inl ⟨(gh_in 779 (by decide +kernel) rfl), fun _ => rfl⟩⟩
theorem fR_50 : gh_F "RatchetGroupModel" 50 7 17 := ⟨(RR, FR, 52), rfl, by decide, wR, Or.inl (gh_in 780 (by decide +kernel) rfl)⟩
theorem pR_50 : gh_FP "RatchetGroupModel" 50 7 17 (.array .int) true := ⟨(RR, FR, 52), tR, rfl, by decide, wR, tR_ok, nR, rfl, rfl, Or.inl ⟨(gh_in 780 (by decide +kernel) rfl), fun _ => rfl⟩⟩
theorem fR_53 : gh_F "RatchetGroupModel" 53 7 18 := ⟨(RR, FR, 52), rfl, by decide, wR, Or.inl (gh_in 781 (by decide +kernel) rfl)⟩
theorem pR_53 : gh_FP "RatchetGroupModel" 53 7 18 (.array .int) true := ⟨(RR, FR, 52), tR, rfl, by decide, wR, tR_ok, nR, rfl, rfl, Or.inl ⟨(gh_in 781 (by decide +kernel) rfl), fun _ => rfl⟩⟩
theorem fR_56 : gh_F "RatchetGroupModel" 56 7 19 := ⟨(RR, FR, 52), rfl, by decide, wR, Or.inl (gh_in 782 (by decide +kernel) rfl)⟩
theorem pR_56 : gh_FP "RatchetGroupModel" 56 7 19 (.array .int) true := ⟨(RR, FR, 52), tR, rfl, by decide, wR, tR_ok, nR, rfl, rfl, Or.inl ⟨(gh_in 782 (by decide +kernel) rfl), fun _ => rfl⟩⟩
theorem fR_59 : gh_F "RatchetGroupModel" 59 7 20 := ⟨(RR, FR, 52), rfl, by decide, wR, Or.inl (gh_in 783 (by decide +kernel) rfl)⟩
theorem pR_59 : gh_FP "RatchetGroupModel" 59 7 20 (.array .int) true := ⟨(RR, FR, 52), tR, rfl, by decide, wR, tR_ok, nR, rfl, rfl, Or.inl ⟨(gh_in 783 (by decide +kernel) rfl), fun _ => rfl⟩⟩
theorem fR_62 : gh_F "RatchetGroupModel" 62 7 21 := ⟨(RR, FR, 52), rfl, by decide, wR, Or.inl (gh_in 784 (by decide +kernel) rfl)⟩
theorem pR_62 : gh_FP "RatchetGroupModel" 62 7 21 (.array .boolean) true := ⟨(RR, FR, 52), tR, rfl, by decide, wR, tR_ok, nR, rfl, rfl, Or.inl ⟨(gh_in 784 (by decide +kernel) rfl), fun _ => rfl⟩⟩
theorem fR_65 : gh_F "RatchetGroupModel" 65 7 22 := ⟨(RR, FR, 52), rfl, by decide, wR, Or.inl (gh_in 785 (by decide +kernel) rfl)⟩
theorem pR_65 : gh_FP "RatchetGroupModel" 65 7 22 (.array .int) true := ⟨(RR, FR, 52), tR, rfl, by decide, wR, tR_ok, nR, rfl, rfl, Or.inl ⟨(gh_in 785 (by decide +kernel) rfl), fun _ => rfl⟩⟩
theorem fR_68 : gh_F "RatchetGroupModel" 68 7 23 := ⟨(RR, FR, 52), rfl, by decide, wR, Or.inl (gh_in 786 (by decide +kernel) rfl)⟩
theorem pR_68 : gh_FP "RatchetGroupModel" 68 7 23 (.array .int) true := ⟨(RR, FR, 52), tR, rfl, by decide, wR, tR_ok, nR, rfl, rfl, Or.inl ⟨(gh_in 786 (by decide +kernel) rfl), fun _ => rfl⟩⟩
theorem fR_71 : gh_F "RatchetGroupModel" 71 7 24 := ⟨(RR, FR, 52), rfl, by decide, wR, Or.inl (gh_in 787 (by decide +kernel) rfl)⟩
theorem pR_71 : gh_FP "RatchetGroupModel" 71 7 24 (.array .int) true := ⟨(RR, FR, 52), tR, rfl, by decide, wR, tR_ok, nR, rfl, rfl, Or.inl ⟨(gh_in 787 (by decide +kernel) rfl), fun _ => rfl⟩⟩
theorem fR_74 : gh_F "RatchetGroupModel" 74 7 25 := ⟨(RR, FR, 52), rfl, by decide, wR, Or.inl (gh_in 788 (by decide +kernel) rfl)⟩
theorem pR_74 : gh_FP "RatchetGroupModel" 74 7 25 (.array .int) true := ⟨(RR, FR, 52), tR, rfl, by decide, wR, tR_ok, nR, rfl, rfl, Or.inl ⟨(gh_in 788 (by decide +kernel) rfl), fun _ => rfl⟩⟩
theorem fR_77 : gh_F "RatchetGroupModel" 77 7 26 := ⟨(RR, FR, 52), rfl, by decide, wR, Or.inl (gh_in 789 (by decide +kernel) rfl)⟩
theorem pR_77 : gh_FP "RatchetGroupModel" 77 7 26 (.array .int) true := ⟨(RR, FR, 52), tR, rfl, by decide, wR, tR_ok, nR, rfl, rfl, Or.inl ⟨(gh_in 789 (by decide +kernel) rfl), fun _ => rfl⟩⟩
theorem fR_80 : gh_F "RatchetGroupModel" 80 7 27 := ⟨(RR, FR, 52), rfl, by decide, wR, Or.inl (gh_in 790 (by decide +kernel) rfl)⟩
theorem pR_80 : gh_FP "RatchetGroupModel" 80 7 27 (.array .int) true := ⟨(RR, FR, 52), tR, rfl, by decide, wR, tR_ok, nR, rfl, rfl, Or.inl ⟨(gh_in 790 (by decide +kernel) rfl), fun _ => rfl⟩⟩
theorem fR_83 : gh_F "RatchetGroupModel" 83 7 28 := ⟨(RR, FR, 52), rfl, by decide, wR, Or.inl (gh_in 791 (by decide +kernel) rfl)⟩
theorem pR_83 : gh_FP "RatchetGroupModel" 83 7 28 (.array .int) true := ⟨(RR, FR, 52), tR, rfl, by decide, wR, tR_ok, nR, rfl, rfl, Or.inl ⟨(gh_in 791 (by decide +kernel) rfl), fun _ => rfl⟩⟩
theorem fR_86 : gh_F "RatchetGroupModel" 86 7 29 := ⟨(RR, FR, 52), rfl, by decide, wR, Or.inl (gh_in 792 (by decide +kernel) rfl)⟩
theorem pR_86 : gh_FP "RatchetGroupModel" 86 7 29 (.array .int) true := ⟨(RR, FR, 52), tR, rfl, by decide, wR, tR_ok, nR, rfl, rfl, Or.inl ⟨(gh_in 792 (by decide +kernel) rfl), fun _ => rfl⟩⟩
theorem fR_89 : gh_F "RatchetGroupModel" 89 7 30 := ⟨(RR, FR, 52), rfl, by decide, wR, Or.inl (gh_in 793 (by decide +kernel) rfl)⟩
theorem pR_89 : gh_FP "RatchetGroupModel" 89 7 30 (.array .int) true := ⟨(RR, FR, 52), tR, rfl, by decide, wR, tR_ok, nR, rfl, rfl, Or.inl ⟨(gh_in 793 (by decide +kernel) rfl), fun _ => rfl⟩⟩
theorem fR_92 : gh_F "RatchetGroupModel" 92 7 31 := ⟨(RR, FR, 52), rfl, by decide, wR, Or.inl (gh_in 794 (by decide +kernel) rfl)⟩
theorem pR_92 : gh_FP "RatchetGroupModel" 92 7 31 (.array .int) true := ⟨(RR, FR, 52), tR, rfl, by decide, wR, tR_ok, nR, rfl, rfl, Or.inl ⟨(gh_in 794 (by decide +kernel) rfl), fun _ => rfl⟩⟩
theorem fR_95 : gh_F "RatchetGroupModel" 95 7 32 := ⟨(RR, FR, 52), rfl, by decide, wR, Or.inl (gh_in 795 (by decide +kernel) rfl)⟩
theorem pR_95 : gh_FP "RatchetGroupModel" 95 7 32 (.array .boolean) true := ⟨(RR, FR, 52), tR, rfl, by decide, wR, tR_ok, nR, rfl, rfl, Or.inl ⟨(gh_in 795 (by decide +kernel) rfl), fun _ => rfl⟩⟩
theorem fR_98 : gh_F "RatchetGroupModel" 98 7 33 := ⟨(RR, FR, 52), rfl, by decide, wR, Or.inl (gh_in 796 (by decide +kernel) rfl)⟩
theorem pR_98 : gh_FP "RatchetGroupModel" 98 7 33 (.array .int) true := ⟨(RR, FR, 52), tR, rfl, by decide, wR, tR_ok, nR, rfl, rfl, Or.inl ⟨(gh_in 796 (by decide +kernel) rfl), fun _ => rfl⟩⟩
theorem fR_101 : gh_F "RatchetGroupModel" 101 7 34 := ⟨(RR, FR, 52), rfl, by decide, wR, Or.inl (gh_in 797 (by decide +kernel) rfl)⟩
theorem pR_101 : gh_FP "RatchetGroupModel" 101 7 34 (.array .int) true := ⟨(RR, FR, 52), tR, rfl, by decide, wR, tR_ok, nR, rfl, rfl, Or.inl ⟨(gh_in 797 (by decide +kernel) rfl), fun _ => rfl⟩⟩
theorem fR_189 : gh_F "RatchetGroupModel" 189 7 35 := ⟨(RR, FR, 52), rfl, by decide, wR, Or.inl (gh_in 798 (by decide +kernel) rfl)⟩
theorem pR_189 : gh_FP "RatchetGroupModel" 189 7 35 .int false := ⟨(RR, FR, 52), tR, rfl, by decide, wR, tR_ok, nR, rfl, rfl, Or.inl ⟨(gh_in 798 (by decide +kernel) rfl), fun h => Bool.noConfusion h⟩⟩
theorem fR_104 : gh_F "RatchetGroupModel" 104 7 36 := ⟨(RR, FR, 52), rfl, by decide, wR, Or.inl (gh_in 799 (by decide +kernel) rfl)⟩
theorem pR_104 : gh_FP "RatchetGroupModel" 104 7 36 (.array .int) true := ⟨(RR, FR, 52), tR, rfl, by decide, wR, tR_ok, nR, rfl, rfl, Or.inl ⟨(gh_in 799 (by decide +kernel) rfl), fun _ => rfl⟩⟩
theorem fR_107 : gh_F "RatchetGroupModel" 107 7 37 := ⟨(RR, FR, 52), rfl, by decide, wR, Or.inl (gh_in 800 (by decide +kernel) rfl)⟩
theorem pR_107 : gh_FP "RatchetGroupModel" 107 7 37 (.array .int) true := ⟨(RR, FR, 52), tR, rfl, by decide, wR, tR_ok, nR, rfl, rfl, Or.inl ⟨(gh_in 800 (by decide +kernel) rfl), fun _ => rfl⟩⟩
theorem fR_110 : gh_F "RatchetGroupModel" 110 7 38 := ⟨(RR, FR, 52), rfl, by decide, wR, Or.inl (gh_in 801 (by decide +kernel) rfl)⟩
theorem pR_110 : gh_FP "RatchetGroupModel" 110 7 38 (.array .int) true := ⟨(RR, FR, 52), tR, rfl, by decide, wR, tR_ok, nR, rfl, rfl, Or.inl ⟨(gh_in 801 (by decide +kernel) rfl), fun _ => rfl⟩⟩
theorem fR_113 : gh_F "RatchetGroupModel" 113 7 39 := ⟨(RR, FR, 52), rfl, by decide, wR, Or.inl (gh_in 802 (by decide +kernel) rfl)⟩
theorem pR_113 : gh_FP "RatchetGroupModel" 113 7 39 (.array .int) true := ⟨(RR, FR, 52), tR, rfl, by decide, wR, tR_ok, nR, rfl, rfl, Or.inl ⟨(gh_in 802 (by decide +kernel) rfl), fun _ => rfl⟩⟩
theorem fR_116 : gh_F "RatchetGroupModel" 116 7 40 := ⟨(RR, FR, 52), rfl, by decide, wR, Or.inl (gh_in 803 (by decide +kernel) rfl)⟩
theorem pR_116 : gh_FP "RatchetGroupModel" 116 7 40 (.array .int) true := ⟨(RR, FR, 52), tR, rfl, by decide, wR, tR_ok, nR, rfl, rfl, Or.inl ⟨(gh_in 803 (by decide +kernel) rfl), fun _ => rfl⟩⟩
theorem fR_119 : gh_F "RatchetGroupModel" 119 7 41 := ⟨(RR, FR, 52), rfl, by decide, wR, Or.inl (gh_in 804 (by decide +kernel) rfl)⟩
theorem pR_119 : gh_FP "RatchetGroupModel" 119 7 41 (.array .boolean) true := ⟨(RR, FR, 52), tR, rfl, by decide, wR, tR_ok, nR, rfl, rfl, Or.inl ⟨(gh_in 804 (by decide +kernel) rfl), fun _ => rfl⟩⟩
theorem fR_195 : gh_F "RatchetGroupModel" 195 7 42 := ⟨(RR, FR, 52), rfl, by decide, wR, Or.inl (gh_in 805 (by decide +kernel) rfl)⟩
theorem pR_195 : gh_FP "RatchetGroupModel" 195 7 42 .int false := ⟨(RR, FR, 52), tR, rfl, by decide, wR, tR_ok, nR, rfl, rfl, Or.inl ⟨(gh_in 805 (by decide +kernel) rfl), fun h => Bool.noConfusion h⟩⟩
theorem fR_122 : gh_F "RatchetGroupModel" 122 7 43 := ⟨(RR, FR, 52), rfl, by decide, wR, Or.inl (gh_in 806 (by decide +kernel) rfl)⟩
theorem pR_122 : gh_FP "RatchetGroupModel" 122 7 43 (.array .int) true := ⟨(RR, FR, 52), tR, rfl, by decide, wR, tR_ok, nR, rfl, rfl, Or.inl ⟨(gh_in 806 (by decide +kernel) rfl), fun _ => rfl⟩⟩
theorem fR_125 : gh_F "RatchetGroupModel" 125 7 44 := ⟨(RR, FR, 52), rfl, by decide, wR, Or.inl (gh_in 807 (by decide +kernel) rfl)⟩
theorem pR_125 : gh_FP "RatchetGroupModel" 125 7 44 (.array .int) true := ⟨(RR, FR, 52), tR, rfl, by decide, wR, tR_ok, nR, rfl, rfl, Or.inl ⟨(gh_in 807 (by decide +kernel) rfl), fun _ => rfl⟩⟩
theorem fR_128 : gh_F "RatchetGroupModel" 128 7 45 := ⟨(RR, FR, 52), rfl, by decide, wR, Or.inl (gh_in 808 (by decide +kernel) rfl)⟩
theorem pR_128 : gh_FP "RatchetGroupModel" 128 7 45 (.array .int) true := ⟨(RR, FR, 52), tR, rfl, by decide, wR, tR_ok, nR, rfl, rfl, Or.inl ⟨(gh_in 808 (by decide +kernel) rfl), fun _ => rfl⟩⟩
theorem fR_183 : gh_F "RatchetGroupModel" 183 7 46 := ⟨(RR, FR, 52), rfl, by decide, wR, Or.inl (gh_in 809 (by decide +kernel) rfl)⟩
theorem pR_183 : gh_FP "RatchetGroupModel" 183 7 46 .int false := ⟨(RR, FR, 52), tR, rfl, by decide, wR, tR_ok, nR, rfl, rfl, Or.inl ⟨(gh_in 809 (by decide +kernel) rfl), fun h => Bool.noConfusion h⟩⟩
theorem fR_131 : gh_F "RatchetGroupModel" 131 7 47 := ⟨(RR, FR, 52), rfl, by decide, wR, Or.inl (gh_in 810 (by decide +kernel) rfl)⟩
theorem pR_131 : gh_FP "RatchetGroupModel" 131 7 47 (.array .int) true := ⟨(RR, FR, 52), tR, rfl, by decide, wR, tR_ok, nR, rfl, rfl, Or.inl ⟨(gh_in 810 (by decide +kernel) rfl), fun _ => rfl⟩⟩
theorem fR_176 : gh_F "RatchetGroupModel" 176 7 48 := ⟨(RR, FR, 52), rfl, by decide, wR, Or.inl (gh_in 811 (by decide +kernel) rfl)⟩
theorem pR_176 : gh_FP "RatchetGroupModel" 176 7 48 .int false := ⟨(RR, FR, 52), tR, rfl, by decide, wR, tR_ok, nR, rfl, rfl, Or.inl ⟨(gh_in 811 (by decide +kernel) rfl), fun h => Bool.noConfusion h⟩⟩
theorem fR_134 : gh_F "RatchetGroupModel" 134 7 49 := ⟨(RR, FR, 52), rfl, by decide, wR, Or.inl (gh_in 812 (by decide +kernel) rfl)⟩
theorem pR_134 : gh_FP "RatchetGroupModel" 134 7 49 (.array .int) true := ⟨(RR, FR, 52), tR, rfl, by decide, wR, tR_ok, nR, rfl, rfl, Or.inl ⟨(gh_in 812 (by decide +kernel) rfl), fun _ => rfl⟩⟩
theorem fR_137 : gh_F "RatchetGroupModel" 137 7 50 := ⟨(RR, FR, 52), rfl, by decide, wR, Or.inl (gh_in 813 (by decide +kernel) rfl)⟩
theorem pR_137 : gh_FP "RatchetGroupModel" 137 7 50 (.array .int) true := ⟨(RR, FR, 52), tR, rfl, by decide, wR, tR_ok, nR, rfl, rfl, Or.inl ⟨(gh_in 813 (by decide +kernel) rfl), fun _ => rfl⟩⟩
theorem fR_140 : gh_F "RatchetGroupModel" 140 7 51 := ⟨(RR, FR, 52), rfl, by decide, wR, Or.inl (gh_in 814 (by decide +kernel) rfl)⟩
theorem pR_140 : gh_FP "RatchetGroupModel" 140 7 51 (.array .int) true := ⟨(RR, FR, 52), tR, rfl, by decide, wR, tR_ok, nR, rfl, rfl, Or.inl ⟨(gh_in 814 (by decide +kernel) rfl), fun _ => rfl⟩⟩
theorem kL_8 : Cond.classLink "RatchetGroupLaw" 8 "RatchetGroup" ∈ gh_T := (gh_in 78 (by decide +kernel) rfl)
theorem zL_8 : gh_N "RatchetGroupLaw" 8 0 10 [.null, .null, .null, .int 0, .null, .int 0, .null, .int 0, .null, .null] := ⟨(RG, FG, 10), tG, rfl, rfl, wG, tG_ok, kL_8, (gh_in 79 (by decide +kernel) rfl), (gh_in 61 (by decide +kernel) rfl), by decide +kernel⟩
theorem kG_9 : Cond.classLink "RatchetGroup" 9 "RatchetGroup$Secrets" ∈ gh_T := (gh_in 86 (by decide +kernel) rfl)
theorem zG_9 : gh_N "RatchetGroup" 9 1 6 [.null, .int 0, .null, .null, .null, .int 0] := ⟨(RS, FS, 6), tS, rfl, rfl, wS, tS_ok, kG_9, (gh_in 87 (by decide +kernel) rfl), (gh_in 62 (by decide +kernel) rfl), by decide +kernel⟩
theorem kG_16 : Cond.classLink "RatchetGroup" 16 "RatchetGroup$Member" ∈ gh_T := (gh_in 113 (by decide +kernel) rfl)
theorem zG_16 : gh_N "RatchetGroup" 16 2 7 [.int 0, .int 0, .int 0, .int 0, .null, .null, .int 0] := ⟨(RB, FB, 7), tB, rfl, rfl, wB, tB_ok, kG_16, (gh_in 121 (by decide +kernel) rfl), (gh_in 63 (by decide +kernel) rfl), by decide +kernel⟩
theorem kG_22 : Cond.classLink "RatchetGroup" 22 "RatchetGroup$Epoch" ∈ gh_T := (gh_in 115 (by decide +kernel) rfl)
theorem zG_22 : gh_N "RatchetGroup" 22 3 9 [.int 0, .null, .int 0, .int 0, .int 0, .int 0, .int 0, .int 0, .int 0] := ⟨(RE, FE, 9), tE, rfl, rfl, wE, tE_ok, kG_22, (gh_in 156 (by decide +kernel) rfl), (gh_in 65 (by decide +kernel) rfl), by decide +kernel⟩
theorem kG_28 : Cond.classLink "RatchetGroup" 28 "RatchetGroup$KeyPackage" ∈ gh_T := (gh_in 117 (by decide +kernel) rfl)
theorem zG_28 : gh_N "RatchetGroup" 28 5 6 [.int 0, .int 0, .int 0, .int 0, .int 0, .int 0] := ⟨(RK, FK, 6), tK, rfl, rfl, wK, tK_ok, kG_28, (gh_in 474 (by decide +kernel) rfl), (gh_in 75 (by decide +kernel) rfl), by decide +kernel⟩
theorem kG_34 : Cond.classLink "RatchetGroup" 34 "RatchetGroup$Proposal" ∈ gh_T := (gh_in 119 (by decide +kernel) rfl)
theorem zG_34 : gh_N "RatchetGroup" 34 6 3 [.int 0, .int 0, .int 0] := ⟨(RP, FP, 3), tP, rfl, rfl, wP, tP_ok, kG_34, (gh_in 518 (by decide +kernel) rfl), (gh_in 76 (by decide +kernel) rfl), by decide +kernel⟩
theorem kG_54 : Cond.classLink "RatchetGroup" 54 "RatchetGroup$Tree" ∈ gh_T := (gh_in 157 (by decide +kernel) rfl)
theorem zG_54 : gh_N "RatchetGroup" 54 4 4 [.int 0, .null, .null, .null] := ⟨(RT, FT, 4), tT, rfl, rfl, wT, tT_ok, kG_54, (gh_in 158 (by decide +kernel) rfl), (gh_in 66 (by decide +kernel) rfl), by decide +kernel⟩
theorem kA_311 : Cond.classLink "java/util/Arrays" 311 "[B" ∈ gh_T := (gh_in 236 (by decide +kernel) rfl)
theorem kL_13 : Cond.classLink "RatchetGroupLaw" 13 "java/lang/IndexOutOfBoundsException" ∈ gh_T := (gh_in 391 (by decide +kernel) rfl)
theorem kL_15 : Cond.classLink "RatchetGroupLaw" 15 "java/lang/IllegalStateException" ∈ gh_T := (gh_in 392 (by decide +kernel) rfl)
theorem kG_87 : Cond.classLink "RatchetGroup" 87 "java/lang/IndexOutOfBoundsException" ∈ gh_T := (gh_in 397 (by decide +kernel) rfl)
theorem kG_93 : Cond.classLink "RatchetGroup" 93 "java/lang/IllegalStateException" ∈ gh_T := (gh_in 459 (by decide +kernel) rfl)
theorem kA_317 : Cond.classLink "java/util/Arrays" 317 "[I" ∈ gh_T := (gh_in 575 (by decide +kernel) rfl)
theorem kL_38 : Cond.classLink "RatchetGroupLaw" 38 "RatchetGroupModel" ∈ gh_T := (gh_in 749 (by decide +kernel) rfl)
theorem zL_38 : gh_N "RatchetGroupLaw" 38 7 52 [.int 0, .int 0, .null, .null, .null, .null, .null, .int 0, .null, .null, .null, .null, .int 0, .null, .null, .null, .null, .null, .null, .null, .null, .null, .null, .null, .null, .null, .null, .null, .null, .null, .null, .null, .null, .null, .null, .int 0, .null, .null, .null, .null, .null, .null, .int 0, .null, .null, .null, .int 0, .null, .int 0, .null, .null, .null] := ⟨(RR, FR, 52), tR, rfl, rfl, wR, tR_ok, kL_38, (gh_in 750 (by decide +kernel) rfl), (gh_in 69 (by decide +kernel) rfl), by decide +kernel⟩
theorem ac_0 : Cond.arrayClass .int ∈ gh_T := (gh_in 112 (by decide +kernel) rfl)
theorem ac_1 : Cond.arrayClass .byte ∈ gh_T := (gh_in 111 (by decide +kernel) rfl)
theorem ac_2 : Cond.arrayClass .boolean ∈ gh_T := (gh_in 920 (by decide +kernel) rfl)
theorem ac_3 : Cond.arrayClass .long ∈ gh_T := (gh_in 1142 (by decide +kernel) rfl)
end
section
def mG_init : gh_M := (⟨"RatchetGroup", "<init>", "()V"⟩, prog_1_method_1_code, 2, none)
def mS_init : gh_M := (⟨"RatchetGroup$Secrets", "<init>", "()V"⟩, prog_6_method_1_code, 1, none)
def mB_init : gh_M := (⟨"RatchetGroup$Member", "<init>", "()V"⟩, prog_4_method_1_code, 1, none)
def mA_fill : gh_M := (⟨"java/util/Arrays", "fill", "([II)V"⟩, prog_19_method_103_code, 4, none)
def mT_init0 : gh_M := (⟨"RatchetGroup$Tree", "<init>", "()V"⟩, prog_7_method_1_code, 1, none)
def mE_init : gh_M := (⟨"RatchetGroup$Epoch", "<init>", "(ILRatchetGroup$Tree;I)V"⟩, prog_2_method_1_code, 4, none)
def mS_fresh : gh_M := (⟨"RatchetGroup$Secrets", "fresh", "()I"⟩, prog_6_method_2_code, 1, (some .int))
def mA_copyOf0 : gh_M := (⟨"java/util/Arrays", "copyOf", "([BI)[B"⟩, prog_19_method_121_code, 3, (some (.array .byte)))
def mH_min : gh_M := (⟨"java/lang/Math", "min", "(II)I"⟩, prog_15_method_69_code, 2, (some .int))
def mT_give : gh_M := (⟨"RatchetGroup$Tree", "give", "(III)V"⟩, prog_7_method_7_code, 4, none)
def mT_isThere : gh_M := (⟨"RatchetGroup$Tree", "isThere", "(I)Z"⟩, prog_7_method_3_code, 2, (some .boolean))
def mB_enter : gh_M := (⟨"RatchetGroup$Member", "enter", "(LRatchetGroup$Epoch;I)V"⟩, prog_4_method_3_code, 3, none)
def mB_leave : gh_M := (⟨"RatchetGroup$Member", "leave", "()V"⟩, prog_4_method_4_code, 1, none)
def mG_leafNode : gh_M := (⟨"RatchetGroup", "leafNode", "(I)I"⟩, prog_1_method_40_code, 1, (some .int))
def mT_keyOf : gh_M := (⟨"RatchetGroup$Tree", "keyOf", "(I)I"⟩, prog_7_method_4_code, 2, (some .int))
def mG_member : gh_M := (⟨"RatchetGroup", "member", "(II)I"⟩, prog_1_method_9_code, 4, (some .int))
def mG_isMember : gh_M := (⟨"RatchetGroup", "isMember", "(I)Z"⟩, prog_1_method_19_code, 1, (some .boolean))
def mG_gather : gh_M := (⟨"RatchetGroup", "gather", "(I)I"⟩, prog_1_method_38_code, 4, (some .int))
def mB_gatherInto : gh_M := (⟨"RatchetGroup$Member", "gatherInto", "([I)I"⟩, prog_4_method_10_code, 4, (some .int))
def mG_holds : gh_M := (⟨"RatchetGroup", "holds", "(II)Z"⟩, prog_1_method_10_code, 6, (some .boolean))
def mG_isEpoch : gh_M := (⟨"RatchetGroup", "isEpoch", "(I)Z"⟩, prog_1_method_20_code, 2, (some .boolean))
def mG_has : gh_M := (⟨"RatchetGroup", "has", "(I)Z"⟩, prog_1_method_11_code, 2, (some .boolean))
def mG_node : gh_M := (⟨"RatchetGroup", "node", "(III)I"⟩, prog_1_method_12_code, 5, (some .int))
def mT_unmergedAt : gh_M := (⟨"RatchetGroup$Tree", "unmergedAt", "(I)I"⟩, prog_7_method_6_code, 2, (some .int))
def mT_bornAt : gh_M := (⟨"RatchetGroup$Tree", "bornAt", "(I)I"⟩, prog_7_method_5_code, 2, (some .int))
def mG_heightOf : gh_M := (⟨"RatchetGroup", "heightOf", "(I)I"⟩, prog_1_method_43_code, 1, (some .int))
def mI_bitCount : gh_M := (⟨"java/lang/Integer", "bitCount", "(I)I"⟩, prog_14_method_49_code, 1, (some .int))
def mT_resolution : gh_M := (⟨"RatchetGroup$Tree", "resolution", "(II)I"⟩, prog_7_method_14_code, 4, (some .int))
def mG_bit : gh_M := (⟨"RatchetGroup", "bit", "(I)I"⟩, prog_1_method_39_code, 1, (some .int))
def mG_leafNodes : gh_M := (⟨"RatchetGroup", "leafNodes", "(I)I"⟩, prog_1_method_44_code, 3, (some .int))
def mG_epoch : gh_M := (⟨"RatchetGroup", "epoch", "(II)I"⟩, prog_1_method_13_code, 4, (some .int))
def mG_epochs : gh_M := (⟨"RatchetGroup", "epochs", "()I"⟩, prog_1_method_14_code, 1, (some .int))
def mG_waiting : gh_M := (⟨"RatchetGroup", "waiting", "()I"⟩, prog_1_method_15_code, 1, (some .int))
def mG_isKnown : gh_M := (⟨"RatchetGroup", "isKnown", "(I)Z"⟩, prog_1_method_16_code, 2, (some .boolean))
def mS_isOut : gh_M := (⟨"RatchetGroup$Secrets", "isOut", "(I)Z"⟩, prog_6_method_8_code, 2, (some .boolean))
def mG_isOpen : gh_M := (⟨"RatchetGroup", "isOpen", "(II)Z"⟩, prog_1_method_17_code, 3, (some .boolean))
def mG_known : gh_M := (⟨"RatchetGroup", "known", "()I"⟩, prog_1_method_18_code, 3, (some .int))
def mL_offer : gh_M := (⟨"RatchetGroupLaw", "offer", "(LRatchetGroup;I[J)I"⟩, method_3_code, 4, (some .int))
def mG_offer : gh_M := (⟨"RatchetGroup", "offer", "(I)I"⟩, prog_1_method_2_code, 3, (some .int))
def mK_init : gh_M := (⟨"RatchetGroup$KeyPackage", "<init>", "(III)V"⟩, prog_3_method_1_code, 4, none)
def mL_add : gh_M := (⟨"RatchetGroupLaw", "add", "(LRatchetGroup;II[J)I"⟩, method_4_code, 5, (some .int))
def mG_add : gh_M := (⟨"RatchetGroup", "add", "(II)I"⟩, prog_1_method_3_code, 3, (some .int))
def mG_mayPropose : gh_M := (⟨"RatchetGroup", "mayPropose", "(I)Z"⟩, prog_1_method_22_code, 2, (some .boolean))
def mG_isInLatest : gh_M := (⟨"RatchetGroup", "isInLatest", "(I)Z"⟩, prog_1_method_21_code, 2, (some .boolean))
def mP_init : gh_M := (⟨"RatchetGroup$Proposal", "<init>", "(III)V"⟩, prog_5_method_1_code, 4, none)
def mG_propose : gh_M := (⟨"RatchetGroup", "propose", "(LRatchetGroup$Proposal;)I"⟩, prog_1_method_23_code, 2, (some .int))
def mL_remove : gh_M := (⟨"RatchetGroupLaw", "remove", "(LRatchetGroup;II[J)I"⟩, method_5_code, 5, (some .int))
def mG_remove : gh_M := (⟨"RatchetGroup", "remove", "(II)I"⟩, prog_1_method_4_code, 3, (some .int))
def mL_update : gh_M := (⟨"RatchetGroupLaw", "update", "(LRatchetGroup;I[J)I"⟩, method_6_code, 4, (some .int))
def mG_update : gh_M := (⟨"RatchetGroup", "update", "(I)I"⟩, prog_1_method_5_code, 4, (some .int))
def mB_keepUpdate : gh_M := (⟨"RatchetGroup$Member", "keepUpdate", "(I)V"⟩, prog_4_method_2_code, 2, none)
def mL_commit : gh_M := (⟨"RatchetGroupLaw", "commit", "(LRatchetGroup;IZ[J)I"⟩, method_7_code, 5, (some .int))
def mG_commit : gh_M := (⟨"RatchetGroup", "commit", "(IZ)I"⟩, prog_1_method_6_code, 9, (some .int))
def mT_init1 : gh_M := (⟨"RatchetGroup$Tree", "<init>", "(LRatchetGroup$Tree;)V"⟩, prog_7_method_2_code, 2, none)
def mA_copyOf1 : gh_M := (⟨"java/util/Arrays", "copyOf", "([II)[I"⟩, prog_19_method_123_code, 3, (some (.array .int)))
def mS_ruleCount : gh_M := (⟨"RatchetGroup$Secrets", "ruleCount", "()I"⟩, prog_6_method_6_code, 1, (some .int))
def mG_doRemoves : gh_M := (⟨"RatchetGroup", "doRemoves", "(LRatchetGroup$Epoch;)V"⟩, prog_1_method_24_code, 4, none)
def mT_blankLeafAndPath : gh_M := (⟨"RatchetGroup$Tree", "blankLeafAndPath", "(I)V"⟩, prog_7_method_9_code, 3, none)
def mG_pathNode : gh_M := (⟨"RatchetGroup", "pathNode", "(II)I"⟩, prog_1_method_41_code, 2, (some .int))
def mT_blank : gh_M := (⟨"RatchetGroup$Tree", "blank", "(I)V"⟩, prog_7_method_8_code, 2, none)
def mG_dismiss : gh_M := (⟨"RatchetGroup", "dismiss", "(I)V"⟩, prog_1_method_25_code, 3, none)
def mT_shrink : gh_M := (⟨"RatchetGroup$Tree", "shrink", "()V"⟩, prog_7_method_11_code, 2, none)
def mT_firstLeafWithKey : gh_M := (⟨"RatchetGroup$Tree", "firstLeafWithKey", "(I)I"⟩, prog_7_method_12_code, 3, (some .int))
def mG_doUpdates : gh_M := (⟨"RatchetGroup", "doUpdates", "(LRatchetGroup$Epoch;)V"⟩, prog_1_method_26_code, 4, none)
def mG_doAdds : gh_M := (⟨"RatchetGroup", "doAdds", "(LRatchetGroup$Epoch;)V"⟩, prog_1_method_27_code, 3, none)
def mG_mayBeAdded : gh_M := (⟨"RatchetGroup", "mayBeAdded", "(LRatchetGroup$KeyPackage;)Z"⟩, prog_1_method_28_code, 2, (some .boolean))
def mG_hasLeaf : gh_M := (⟨"RatchetGroup", "hasLeaf", "(I)Z"⟩, prog_1_method_29_code, 3, (some .boolean))
def mG_addBy : gh_M := (⟨"RatchetGroup", "addBy", "(LRatchetGroup$KeyPackage;LRatchetGroup$Epoch;)V"⟩, prog_1_method_30_code, 4, none)
def mT_makeRoom : gh_M := (⟨"RatchetGroup$Tree", "makeRoom", "()I"⟩, prog_7_method_13_code, 2, (some .int))
def mT_markUnmerged : gh_M := (⟨"RatchetGroup$Tree", "markUnmerged", "(I)V"⟩, prog_7_method_10_code, 4, none)
def mG_makePath : gh_M := (⟨"RatchetGroup", "makePath", "(LRatchetGroup$Epoch;)I"⟩, prog_1_method_31_code, 8, (some .int))
def mG_sideNode : gh_M := (⟨"RatchetGroup", "sideNode", "(II)I"⟩, prog_1_method_42_code, 2, (some .int))
def mS_derive : gh_M := (⟨"RatchetGroup$Secrets", "derive", "(I)I"⟩, prog_6_method_3_code, 2, (some .int))
def mS_deriveOfTwo : gh_M := (⟨"RatchetGroup$Secrets", "deriveOfTwo", "(II)I"⟩, prog_6_method_4_code, 4, (some .int))
def mS_tie : gh_M := (⟨"RatchetGroup$Secrets", "tie", "(III)V"⟩, prog_6_method_5_code, 4, none)
def mG_sendToNodes : gh_M := (⟨"RatchetGroup", "sendToNodes", "(LRatchetGroup$Epoch;II)V"⟩, prog_1_method_32_code, 5, none)
def mG_encrypt : gh_M := (⟨"RatchetGroup", "encrypt", "(LRatchetGroup$Epoch;II)V"⟩, prog_1_method_35_code, 4, none)
def mG_sendToAdded : gh_M := (⟨"RatchetGroup", "sendToAdded", "(LRatchetGroup$Epoch;III)V"⟩, prog_1_method_33_code, 6, none)
def mG_openEpoch : gh_M := (⟨"RatchetGroup", "openEpoch", "(LRatchetGroup$Epoch;LRatchetGroup$Epoch;I)V"⟩, prog_1_method_34_code, 6, none)
def mB_moveByCommit : gh_M := (⟨"RatchetGroup$Member", "moveByCommit", "(LRatchetGroup$Epoch;)V"⟩, prog_4_method_5_code, 2, none)
def mB_dropOldKeys : gh_M := (⟨"RatchetGroup$Member", "dropOldKeys", "(LRatchetGroup$Tree;)V"⟩, prog_4_method_8_code, 3, none)
def mE_lowestCounting : gh_M := (⟨"RatchetGroup$Epoch", "lowestCounting", "(I)I"⟩, prog_2_method_2_code, 3, (some .int))
def mB_learnPath : gh_M := (⟨"RatchetGroup$Member", "learnPath", "(LRatchetGroup$Epoch;I)V"⟩, prog_4_method_9_code, 5, none)
def mH_max : gh_M := (⟨"java/lang/Math", "max", "(II)I"⟩, prog_15_method_65_code, 2, (some .int))
def mS_spread : gh_M := (⟨"RatchetGroup$Secrets", "spread", "(I)V"⟩, prog_6_method_9_code, 3, none)
def mS_learn : gh_M := (⟨"RatchetGroup$Secrets", "learn", "(I)V"⟩, prog_6_method_7_code, 2, none)
def mL_come : gh_M := (⟨"RatchetGroupLaw", "come", "(LRatchetGroup;I[J)I"⟩, method_8_code, 4, (some .int))
def mG_come : gh_M := (⟨"RatchetGroup", "come", "(I)I"⟩, prog_1_method_7_code, 4, (some .int))
def mB_follow : gh_M := (⟨"RatchetGroup$Member", "follow", "(LRatchetGroup$Epoch;)V"⟩, prog_4_method_6_code, 4, none)
def mB_canOpen : gh_M := (⟨"RatchetGroup$Member", "canOpen", "(LRatchetGroup$Epoch;I)Z"⟩, prog_4_method_7_code, 7, (some .boolean))
def mG_earliestWelcome : gh_M := (⟨"RatchetGroup", "earliestWelcome", "(I)I"⟩, prog_1_method_36_code, 5, (some .int))
def mG_joinBy : gh_M := (⟨"RatchetGroup", "joinBy", "(LRatchetGroup$Member;LRatchetGroup$KeyPackage;)V"⟩, prog_1_method_37_code, 4, none)
def mL_compromise : gh_M := (⟨"RatchetGroupLaw", "compromise", "(LRatchetGroup;I[J)I"⟩, method_9_code, 4, (some .int))
def mG_compromise : gh_M := (⟨"RatchetGroup", "compromise", "(I)I"⟩, prog_1_method_8_code, 4, (some .int))
def mR_init : gh_M := (⟨"RatchetGroupModel", "<init>", "()V"⟩, prog_9_method_1_code, 2, none)
def mR_make : gh_M := (⟨"RatchetGroupModel", "make", "(III)I"⟩, prog_9_method_4_code, 4, (some .int))
def mR_leave : gh_M := (⟨"RatchetGroupModel", "leave", "(I)V"⟩, prog_9_method_18_code, 3, none)
def mR_thrown : gh_M := (⟨"RatchetGroupModel", "thrown", "()I"⟩, prog_9_method_2_code, 1, (some .int))
def mR_offer : gh_M := (⟨"RatchetGroupModel", "offer", "(I)I"⟩, prog_9_method_40_code, 2, (some .int))
def mR_in : gh_M := (⟨"RatchetGroupModel", "in", "(II)Z"⟩, prog_9_method_3_code, 2, (some .boolean))
def mR_add : gh_M := (⟨"RatchetGroupModel", "add", "(II)I"⟩, prog_9_method_41_code, 3, (some .int))
def mR_isAsked : gh_M := (⟨"RatchetGroupModel", "isAsked", "(IZ)Z"⟩, prog_9_method_38_code, 3, (some .boolean))
def mR_isLatest : gh_M := (⟨"RatchetGroupModel", "isLatest", "(I)Z"⟩, prog_9_method_22_code, 2, (some .boolean))
def mR_propose : gh_M := (⟨"RatchetGroupModel", "propose", "(III)I"⟩, prog_9_method_39_code, 4, (some .int))
def mR_remove : gh_M := (⟨"RatchetGroupModel", "remove", "(II)I"⟩, prog_9_method_42_code, 3, (some .int))
def mR_update : gh_M := (⟨"RatchetGroupModel", "update", "(I)I"⟩, prog_9_method_43_code, 3, (some .int))
def mR_commit : gh_M := (⟨"RatchetGroupModel", "commit", "(IZ)I"⟩, prog_9_method_44_code, 3, (some .int))
def mR_change : gh_M := (⟨"RatchetGroupModel", "change", "(IZ)V"⟩, prog_9_method_37_code, 8, none)
def mR_copyTree : gh_M := (⟨"RatchetGroupModel", "copyTree", "(II)V"⟩, prog_9_method_23_code, 4, none)
def mR_width : gh_M := (⟨"RatchetGroupModel", "width", "(I)I"⟩, prog_9_method_11_code, 2, (some .int))
def mR_findRemoves : gh_M := (⟨"RatchetGroupModel", "findRemoves", "(II)V"⟩, prog_9_method_24_code, 5, none)
def mR_findUpdates : gh_M := (⟨"RatchetGroupModel", "findUpdates", "(II)V"⟩, prog_9_method_25_code, 5, none)
def mR_doRemoves : gh_M := (⟨"RatchetGroupModel", "doRemoves", "(I)V"⟩, prog_9_method_26_code, 3, none)
def mR_blank : gh_M := (⟨"RatchetGroupModel", "blank", "(II)V"⟩, prog_9_method_12_code, 3, none)
def mR_blankPath : gh_M := (⟨"RatchetGroupModel", "blankPath", "(II)V"⟩, prog_9_method_13_code, 4, none)
def mR_above : gh_M := (⟨"RatchetGroupModel", "above", "(II)I"⟩, prog_9_method_9_code, 2, (some .int))
def mR_isRightBlank : gh_M := (⟨"RatchetGroupModel", "isRightBlank", "(I)Z"⟩, prog_9_method_16_code, 4, (some .boolean))
def mR_doUpdates : gh_M := (⟨"RatchetGroupModel", "doUpdates", "(I)V"⟩, prog_9_method_27_code, 3, none)
def mR_set : gh_M := (⟨"RatchetGroupModel", "set", "(III)V"⟩, prog_9_method_14_code, 4, none)
def mR_doAdds : gh_M := (⟨"RatchetGroupModel", "doAdds", "(I)V"⟩, prog_9_method_30_code, 6, none)
def mR_mayAdd : gh_M := (⟨"RatchetGroupModel", "mayAdd", "(II)Z"⟩, prog_9_method_28_code, 4, (some .boolean))
def mR_leafOf : gh_M := (⟨"RatchetGroupModel", "leafOf", "(II)I"⟩, prog_9_method_17_code, 4, (some .int))
def mR_freeLeaf : gh_M := (⟨"RatchetGroupModel", "freeLeaf", "(I)I"⟩, prog_9_method_29_code, 3, (some .int))
def mR_renew : gh_M := (⟨"RatchetGroupModel", "renew", "(II)I"⟩, prog_9_method_31_code, 8, (some .int))
def mR_resolve : gh_M := (⟨"RatchetGroupModel", "resolve", "(II)V"⟩, prog_9_method_15_code, 7, none)
def mR_height : gh_M := (⟨"RatchetGroupModel", "height", "(I)I"⟩, prog_9_method_10_code, 2, (some .int))
def mR_of : gh_M := (⟨"RatchetGroupModel", "of", "(III)I"⟩, prog_9_method_5_code, 5, (some .int))
def mR_encrypt : gh_M := (⟨"RatchetGroupModel", "encrypt", "(III)V"⟩, prog_9_method_6_code, 4, none)
def mR_welcome : gh_M := (⟨"RatchetGroupModel", "welcome", "(II)V"⟩, prog_9_method_33_code, 5, none)
def mR_meeting : gh_M := (⟨"RatchetGroupModel", "meeting", "(II)I"⟩, prog_9_method_32_code, 4, (some .int))
def mR_advance : gh_M := (⟨"RatchetGroupModel", "advance", "(IIZ)V"⟩, prog_9_method_36_code, 4, none)
def mR_keep : gh_M := (⟨"RatchetGroupModel", "keep", "(II)V"⟩, prog_9_method_34_code, 6, none)
def mR_tell : gh_M := (⟨"RatchetGroupModel", "tell", "(III)V"⟩, prog_9_method_35_code, 6, none)
def mR_come : gh_M := (⟨"RatchetGroupModel", "come", "(I)I"⟩, prog_9_method_48_code, 4, (some .int))
def mR_nextPackage : gh_M := (⟨"RatchetGroupModel", "nextPackage", "(I)I"⟩, prog_9_method_45_code, 4, (some .int))
def mR_join : gh_M := (⟨"RatchetGroupModel", "join", "(II)V"⟩, prog_9_method_46_code, 5, none)
def mR_follow : gh_M := (⟨"RatchetGroupModel", "follow", "(I)V"⟩, prog_9_method_47_code, 6, none)
def mR_gather : gh_M := (⟨"RatchetGroupModel", "gather", "(I)V"⟩, prog_9_method_20_code, 3, none)
def mR_hold : gh_M := (⟨"RatchetGroupModel", "hold", "(I)V"⟩, prog_9_method_19_code, 3, none)
def mR_isHeld : gh_M := (⟨"RatchetGroupModel", "isHeld", "(I)Z"⟩, prog_9_method_21_code, 3, (some .boolean))
def mR_compromise : gh_M := (⟨"RatchetGroupModel", "compromise", "(I)I"⟩, prog_9_method_49_code, 3, (some .int))
def mR_member : gh_M := (⟨"RatchetGroupModel", "member", "(II)I"⟩, prog_9_method_50_code, 3, (some .int))
def mR_holds : gh_M := (⟨"RatchetGroupModel", "holds", "(II)Z"⟩, prog_9_method_51_code, 4, (some .boolean))
def mR_has : gh_M := (⟨"RatchetGroupModel", "has", "(I)Z"⟩, prog_9_method_52_code, 2, (some .boolean))
def mR_node : gh_M := (⟨"RatchetGroupModel", "node", "(III)I"⟩, prog_9_method_53_code, 5, (some .int))
def mR_epoch : gh_M := (⟨"RatchetGroupModel", "epoch", "(II)I"⟩, prog_9_method_54_code, 3, (some .int))
def mR_epochs : gh_M := (⟨"RatchetGroupModel", "epochs", "()I"⟩, prog_9_method_55_code, 1, (some .int))
def mR_waiting : gh_M := (⟨"RatchetGroupModel", "waiting", "()I"⟩, prog_9_method_56_code, 1, (some .int))
def mR_isKnown : gh_M := (⟨"RatchetGroupModel", "isKnown", "(I)Z"⟩, prog_9_method_57_code, 2, (some .boolean))
def mR_intrude : gh_M := (⟨"RatchetGroupModel", "intrude", "()V"⟩, prog_9_method_8_code, 3, none)
def mR_follows : gh_M := (⟨"RatchetGroupModel", "follows", "(I)Z"⟩, prog_9_method_7_code, 2, (some .boolean))
def mR_isOpen : gh_M := (⟨"RatchetGroupModel", "isOpen", "(II)Z"⟩, prog_9_method_58_code, 3, (some .boolean))
def mR_known : gh_M := (⟨"RatchetGroupModel", "known", "()I"⟩, prog_9_method_59_code, 3, (some .int))
-- words of the methods
theorem wG_init : gh_MW mG_init 0 := ⟨(gh_in 82 (by decide +kernel) rfl), (gh_in 61 (by decide +kernel) rfl), by decide +kernel, by decide +kernel, by decide +kernel⟩
theorem iG_init : Cond.instanceMethod mG_init.1 ∈ gh_T := (gh_in 81 (by decide +kernel) rfl)
theorem wS_init : gh_MW mS_init 0 := ⟨(gh_in 90 (by decide +kernel) rfl), (gh_in 62 (by decide +kernel) rfl), by decide +kernel, by decide +kernel, by decide +kernel⟩
theorem iS_init : Cond.instanceMethod mS_init.1 ∈ gh_T := (gh_in 89 (by decide +kernel) rfl)
theorem wB_init : gh_MW mB_init 0 := ⟨(gh_in 124 (by decide +kernel) rfl), (gh_in 63 (by decide +kernel) rfl), by decide +kernel, by decide +kernel, by decide +kernel⟩
theorem iB_init : Cond.instanceMethod mB_init.1 ∈ gh_T := (gh_in 123 (by decide +kernel) rfl)
theorem wA_fill : gh_MW mA_fill 2 := ⟨(gh_in 128 (by decide +kernel) rfl), (gh_in 64 (by decide +kernel) rfl), by decide +kernel, by decide +kernel, by decide +kernel⟩
theorem sA_fill : Cond.static mA_fill.1 ∈ gh_T := (gh_in 127 (by decide +kernel) rfl)
theorem wT_init0 : gh_MW mT_init0 0 := ⟨(gh_in 161 (by decide +kernel) rfl), (gh_in 66 (by decide +kernel) rfl), by decide +kernel, by decide +kernel, by decide +kernel⟩
theorem iT_init0 : Cond.instanceMethod mT_init0.1 ∈ gh_T := (gh_in 160 (by decide +kernel) rfl)
theorem wE_init : gh_MW mE_init 3 := ⟨(gh_in 181 (by decide +kernel) rfl), (gh_in 65 (by decide +kernel) rfl), by decide +kernel, by decide +kernel, by decide +kernel⟩
theorem iE_init : Cond.instanceMethod mE_init.1 ∈ gh_T := (gh_in 180 (by decide +kernel) rfl)
theorem wS_fresh : gh_MW mS_fresh 0 := ⟨(gh_in 226 (by decide +kernel) rfl), (gh_in 62 (by decide +kernel) rfl), by decide +kernel, by decide +kernel, by decide +kernel⟩
theorem vS_fresh : Cond.instanceMethod mS_fresh.1 ∈ gh_T ∧ Cond.selects "RatchetGroup$Secrets" mS_fresh.1 mS_fresh.1 ∈ gh_T := ⟨(gh_in 224 (by decide +kernel) rfl), (gh_in 225 (by decide +kernel) rfl)⟩
theorem wA_copyOf0 : gh_MW mA_copyOf0 2 := ⟨(gh_in 229 (by decide +kernel) rfl), (gh_in 64 (by decide +kernel) rfl), by decide +kernel, by decide +kernel, by decide +kernel⟩
theorem sA_copyOf0 : Cond.static mA_copyOf0.1 ∈ gh_T := (gh_in 228 (by decide +kernel) rfl)
theorem wH_min : gh_MW mH_min 2 := ⟨(gh_in 239 (by decide +kernel) rfl), (gh_in 67 (by decide +kernel) rfl), by decide +kernel, by decide +kernel, by decide +kernel⟩
theorem sH_min : Cond.static mH_min.1 ∈ gh_T := (gh_in 238 (by decide +kernel) rfl)
theorem wT_give : gh_MW mT_give 3 := ⟨(gh_in 246 (by decide +kernel) rfl), (gh_in 66 (by decide +kernel) rfl), by decide +kernel, by decide +kernel, by decide +kernel⟩
theorem vT_give : Cond.instanceMethod mT_give.1 ∈ gh_T ∧ Cond.selects "RatchetGroup$Tree" mT_give.1 mT_give.1 ∈ gh_T := ⟨(gh_in 244 (by decide +kernel) rfl), (gh_in 245 (by decide +kernel) rfl)⟩
theorem wT_isThere : gh_MW mT_isThere 1 := ⟨(gh_in 250 (by decide +kernel) rfl), (gh_in 66 (by decide +kernel) rfl), by decide +kernel, by decide +kernel, by decide +kernel⟩
theorem vT_isThere : Cond.instanceMethod mT_isThere.1 ∈ gh_T ∧ Cond.selects "RatchetGroup$Tree" mT_isThere.1 mT_isThere.1 ∈ gh_T := ⟨(gh_in 248 (by decide +kernel) rfl), (gh_in 249 (by decide +kernel) rfl)⟩
theorem wB_enter : gh_MW mB_enter 2 := ⟨(gh_in 254 (by decide +kernel) rfl), (gh_in 63 (by decide +kernel) rfl), by decide +kernel, by decide +kernel, by decide +kernel⟩
theorem vB_enter : Cond.instanceMethod mB_enter.1 ∈ gh_T ∧ Cond.selects "RatchetGroup$Member" mB_enter.1 mB_enter.1 ∈ gh_T := ⟨(gh_in 252 (by decide +kernel) rfl), (gh_in 253 (by decide +kernel) rfl)⟩
theorem wB_leave : gh_MW mB_leave 0 := ⟨(gh_in 258 (by decide +kernel) rfl), (gh_in 63 (by decide +kernel) rfl), by decide +kernel, by decide +kernel, by decide +kernel⟩
theorem vB_leave : Cond.instanceMethod mB_leave.1 ∈ gh_T ∧ Cond.selects "RatchetGroup$Member" mB_leave.1 mB_leave.1 ∈ gh_T := ⟨(gh_in 256 (by decide +kernel) rfl), (gh_in 257 (by decide +kernel) rfl)⟩
theorem wG_leafNode : gh_MW mG_leafNode 1 := ⟨(gh_in 261 (by decide +kernel) rfl), (gh_in 61 (by decide +kernel) rfl), by decide +kernel, by decide +kernel, by decide +kernel⟩
theorem sG_leafNode : Cond.static mG_leafNode.1 ∈ gh_T := (gh_in 260 (by decide +kernel) rfl)
theorem wT_keyOf : gh_MW mT_keyOf 1 := ⟨(gh_in 265 (by decide +kernel) rfl), (gh_in 66 (by decide +kernel) rfl), by decide +kernel, by decide +kernel, by decide +kernel⟩
theorem vT_keyOf : Cond.instanceMethod mT_keyOf.1 ∈ gh_T ∧ Cond.selects "RatchetGroup$Tree" mT_keyOf.1 mT_keyOf.1 ∈ gh_T := ⟨(gh_in 263 (by decide +kernel) rfl), (gh_in 264 (by decide +kernel) rfl)⟩
theorem wG_member : gh_MW mG_member 2 := ⟨(gh_in 300 (by decide +kernel) rfl), (gh_in 61 (by decide +kernel) rfl), by decide +kernel, by decide +kernel, by decide +kernel⟩
theorem vG_member : Cond.instanceMethod mG_member.1 ∈ gh_T ∧ Cond.selects "RatchetGroup" mG_member.1 mG_member.1 ∈ gh_T := ⟨(gh_in 298 (by decide +kernel) rfl), (gh_in 299 (by decide +kernel) rfl)⟩
theorem wG_isMember : gh_MW mG_isMember 1 := ⟨(gh_in 303 (by decide +kernel) rfl), (gh_in 61 (by decide +kernel) rfl), by decide +kernel, by decide +kernel, by decide +kernel⟩
theorem sG_isMember : Cond.static mG_isMember.1 ∈ gh_T := (gh_in 302 (by decide +kernel) rfl)
theorem wG_gather : gh_MW mG_gather 1 := ⟨(gh_in 307 (by decide +kernel) rfl), (gh_in 61 (by decide +kernel) rfl), by decide +kernel, by decide +kernel, by decide +kernel⟩
theorem vG_gather : Cond.instanceMethod mG_gather.1 ∈ gh_T ∧ Cond.selects "RatchetGroup" mG_gather.1 mG_gather.1 ∈ gh_T := ⟨(gh_in 306 (by decide +kernel) rfl), gh_in 0 (by decide +kernel) rfl⟩
theorem wB_gatherInto : gh_MW mB_gatherInto 1 := ⟨(gh_in 311 (by decide +kernel) rfl), (gh_in 63 (by decide +kernel) rfl), by decide +kernel, by decide +kernel, by decide +kernel⟩
theorem vB_gatherInto : Cond.instanceMethod mB_gatherInto.1 ∈ gh_T ∧ Cond.selects "RatchetGroup$Member" mB_gatherInto.1 mB_gatherInto.1 ∈ gh_T := ⟨(gh_in 309 (by decide +kernel) rfl), (gh_in 310 (by decide +kernel) rfl)⟩
theorem wG_holds : gh_MW mG_holds 2 := ⟨(gh_in 315 (by decide +kernel) rfl), (gh_in 61 (by decide +kernel) rfl), by decide +kernel, by decide +kernel, by decide +kernel⟩
theorem vG_holds : Cond.instanceMethod mG_holds.1 ∈ gh_T ∧ Cond.selects "RatchetGroup" mG_holds.1 mG_holds.1 ∈ gh_T := ⟨(gh_in 313 (by decide +kernel) rfl), (gh_in 314 (by decide +kernel) rfl)⟩
theorem wG_isEpoch : gh_MW mG_isEpoch 1 := ⟨(gh_in 319 (by decide +kernel) rfl), (gh_in 61 (by decide +kernel) rfl), by decide +kernel, by decide +kernel, by decide +kernel⟩
theorem vG_isEpoch : Cond.instanceMethod mG_isEpoch.1 ∈ gh_T ∧ Cond.selects "RatchetGroup" mG_isEpoch.1 mG_isEpoch.1 ∈ gh_T := ⟨(gh_in 318 (by decide +kernel) rfl), gh_in 1 (by decide +kernel) rfl⟩
theorem wG_has : gh_MW mG_has 1 := ⟨(gh_in 324 (by decide +kernel) rfl), (gh_in 61 (by decide +kernel) rfl), by decide +kernel, by decide +kernel, by decide +kernel⟩
theorem vG_has : Cond.instanceMethod mG_has.1 ∈ gh_T ∧ Cond.selects "RatchetGroup" mG_has.1 mG_has.1 ∈ gh_T := ⟨(gh_in 322 (by decide +kernel) rfl), (gh_in 323 (by decide +kernel) rfl)⟩
theorem wG_node : gh_MW mG_node 3 := ⟨(gh_in 328 (by decide +kernel) rfl), (gh_in 61 (by decide +kernel) rfl), by decide +kernel, by decide +kernel, by decide +kernel⟩
theorem vG_node : Cond.instanceMethod mG_node.1 ∈ gh_T ∧ Cond.selects "RatchetGroup" mG_node.1 mG_node.1 ∈ gh_T := ⟨(gh_in 326 (by decide +kernel) rfl), (gh_in 327 (by decide +kernel) rfl)⟩
theorem wT_unmergedAt : gh_MW mT_unmergedAt 1 := ⟨(gh_in 333 (by decide +kernel) rfl), (gh_in 66 (by decide +kernel) rfl), by decide +kernel, by decide +kernel, by decide +kernel⟩
theorem vT_unmergedAt : Cond.instanceMethod mT_unmergedAt.1 ∈ gh_T ∧ Cond.selects "RatchetGroup$Tree" mT_unmergedAt.1 mT_unmergedAt.1 ∈ gh_T := ⟨(gh_in 331 (by decide +kernel) rfl), (gh_in 332 (by decide +kernel) rfl)⟩
theorem wT_bornAt : gh_MW mT_bornAt 1 := ⟨(gh_in 337 (by decide +kernel) rfl), (gh_in 66 (by decide +kernel) rfl), by decide +kernel, by decide +kernel, by decide +kernel⟩
theorem vT_bornAt : Cond.instanceMethod mT_bornAt.1 ∈ gh_T ∧ Cond.selects "RatchetGroup$Tree" mT_bornAt.1 mT_bornAt.1 ∈ gh_T := ⟨(gh_in 335 (by decide +kernel) rfl), (gh_in 336 (by decide +kernel) rfl)⟩
theorem wG_heightOf : gh_MW mG_heightOf 1 := ⟨(gh_in 340 (by decide +kernel) rfl), (gh_in 61 (by decide +kernel) rfl), by decide +kernel, by decide +kernel, by decide +kernel⟩
theorem sG_heightOf : Cond.static mG_heightOf.1 ∈ gh_T := (gh_in 339 (by decide +kernel) rfl)
theorem wI_bitCount : gh_MW mI_bitCount 1 := ⟨(gh_in 343 (by decide +kernel) rfl), (gh_in 77 (by decide +kernel) rfl), by decide +kernel, by decide +kernel, by decide +kernel⟩
theorem sI_bitCount : Cond.static mI_bitCount.1 ∈ gh_T := (gh_in 342 (by decide +kernel) rfl)
theorem wT_resolution : gh_MW mT_resolution 2 := ⟨(gh_in 350 (by decide +kernel) rfl), (gh_in 66 (by decide +kernel) rfl), by decide +kernel, by decide +kernel, by decide +kernel⟩
theorem vT_resolution : Cond.instanceMethod mT_resolution.1 ∈ gh_T ∧ Cond.selects "RatchetGroup$Tree" mT_resolution.1 mT_resolution.1 ∈ gh_T := ⟨(gh_in 348 (by decide +kernel) rfl), (gh_in 349 (by decide +kernel) rfl)⟩
theorem wG_bit : gh_MW mG_bit 1 := ⟨(gh_in 353 (by decide +kernel) rfl), (gh_in 61 (by decide +kernel) rfl), by decide +kernel, by decide +kernel, by decide +kernel⟩
theorem sG_bit : Cond.static mG_bit.1 ∈ gh_T := (gh_in 352 (by decide +kernel) rfl)
theorem wG_leafNodes : gh_MW mG_leafNodes 1 := ⟨(gh_in 356 (by decide +kernel) rfl), (gh_in 61 (by decide +kernel) rfl), by decide +kernel, by decide +kernel, by decide +kernel⟩
theorem sG_leafNodes : Cond.static mG_leafNodes.1 ∈ gh_T := (gh_in 355 (by decide +kernel) rfl)
theorem wG_epoch : gh_MW mG_epoch 2 := ⟨(gh_in 363 (by decide +kernel) rfl), (gh_in 61 (by decide +kernel) rfl), by decide +kernel, by decide +kernel, by decide +kernel⟩
theorem vG_epoch : Cond.instanceMethod mG_epoch.1 ∈ gh_T ∧ Cond.selects "RatchetGroup" mG_epoch.1 mG_epoch.1 ∈ gh_T := ⟨(gh_in 361 (by decide +kernel) rfl), (gh_in 362 (by decide +kernel) rfl)⟩
theorem wG_epochs : gh_MW mG_epochs 0 := ⟨(gh_in 367 (by decide +kernel) rfl), (gh_in 61 (by decide +kernel) rfl), by decide +kernel, by decide +kernel, by decide +kernel⟩
theorem vG_epochs : Cond.instanceMethod mG_epochs.1 ∈ gh_T ∧ Cond.selects "RatchetGroup" mG_epochs.1 mG_epochs.1 ∈ gh_T := ⟨(gh_in 365 (by decide +kernel) rfl), (gh_in 366 (by decide +kernel) rfl)⟩
theorem wG_waiting : gh_MW mG_waiting 0 := ⟨(gh_in 371 (by decide +kernel) rfl), (gh_in 61 (by decide +kernel) rfl), by decide +kernel, by decide +kernel, by decide +kernel⟩
theorem vG_waiting : Cond.instanceMethod mG_waiting.1 ∈ gh_T ∧ Cond.selects "RatchetGroup" mG_waiting.1 mG_waiting.1 ∈ gh_T := ⟨(gh_in 369 (by decide +kernel) rfl), (gh_in 370 (by decide +kernel) rfl)⟩
theorem wG_isKnown : gh_MW mG_isKnown 1 := ⟨(gh_in 375 (by decide +kernel) rfl), (gh_in 61 (by decide +kernel) rfl), by decide +kernel, by decide +kernel, by decide +kernel⟩
theorem vG_isKnown : Cond.instanceMethod mG_isKnown.1 ∈ gh_T ∧ Cond.selects "RatchetGroup" mG_isKnown.1 mG_isKnown.1 ∈ gh_T := ⟨(gh_in 373 (by decide +kernel) rfl), (gh_in 374 (by decide +kernel) rfl)⟩
theorem wS_isOut : gh_MW mS_isOut 1 := ⟨(gh_in 379 (by decide +kernel) rfl), (gh_in 62 (by decide +kernel) rfl), by decide +kernel, by decide +kernel, by decide +kernel⟩
theorem vS_isOut : Cond.instanceMethod mS_isOut.1 ∈ gh_T ∧ Cond.selects "RatchetGroup$Secrets" mS_isOut.1 mS_isOut.1 ∈ gh_T := ⟨(gh_in 377 (by decide +kernel) rfl), (gh_in 378 (by decide +kernel) rfl)⟩
theorem wG_isOpen : gh_MW mG_isOpen 2 := ⟨(gh_in 383 (by decide +kernel) rfl), (gh_in 61 (by decide +kernel) rfl), by decide +kernel, by decide +kernel, by decide +kernel⟩
theorem vG_isOpen : Cond.instanceMethod mG_isOpen.1 ∈ gh_T ∧ Cond.selects "RatchetGroup" mG_isOpen.1 mG_isOpen.1 ∈ gh_T := ⟨(gh_in 381 (by decide +kernel) rfl), (gh_in 382 (by decide +kernel) rfl)⟩
theorem wG_known : gh_MW mG_known 0 := ⟨(gh_in 387 (by decide +kernel) rfl), (gh_in 61 (by decide +kernel) rfl), by decide +kernel, by decide +kernel, by decide +kernel⟩
theorem vG_known : Cond.instanceMethod mG_known.1 ∈ gh_T ∧ Cond.selects "RatchetGroup" mG_known.1 mG_known.1 ∈ gh_T := ⟨(gh_in 385 (by decide +kernel) rfl), (gh_in 386 (by decide +kernel) rfl)⟩
theorem wG_offer : gh_MW mG_offer 1 := ⟨(gh_in 396 (by decide +kernel) rfl), (gh_in 61 (by decide +kernel) rfl), by decide +kernel, by decide +kernel, by decide +kernel⟩
theorem vG_offer : Cond.instanceMethod mG_offer.1 ∈ gh_T ∧ Cond.selects "RatchetGroup" mG_offer.1 mG_offer.1 ∈ gh_T := ⟨(gh_in 394 (by decide +kernel) rfl), (gh_in 395 (by decide +kernel) rfl)⟩
theorem wK_init : gh_MW mK_init 3 := ⟨(gh_in 477 (by decide +kernel) rfl), (gh_in 75 (by decide +kernel) rfl), by decide +kernel, by decide +kernel, by decide +kernel⟩
theorem iK_init : Cond.instanceMethod mK_init.1 ∈ gh_T := (gh_in 476 (by decide +kernel) rfl)
theorem wG_add : gh_MW mG_add 2 := ⟨(gh_in 509 (by decide +kernel) rfl), (gh_in 61 (by decide +kernel) rfl), by decide +kernel, by decide +kernel, by decide +kernel⟩
theorem vG_add : Cond.instanceMethod mG_add.1 ∈ gh_T ∧ Cond.selects "RatchetGroup" mG_add.1 mG_add.1 ∈ gh_T := ⟨(gh_in 507 (by decide +kernel) rfl), (gh_in 508 (by decide +kernel) rfl)⟩
theorem wG_mayPropose : gh_MW mG_mayPropose 1 := ⟨(gh_in 513 (by decide +kernel) rfl), (gh_in 61 (by decide +kernel) rfl), by decide +kernel, by decide +kernel, by decide +kernel⟩
theorem vG_mayPropose : Cond.instanceMethod mG_mayPropose.1 ∈ gh_T ∧ Cond.selects "RatchetGroup" mG_mayPropose.1 mG_mayPropose.1 ∈ gh_T := ⟨(gh_in 512 (by decide +kernel) rfl), gh_in 3 (by decide +kernel) rfl⟩
theorem wG_isInLatest : gh_MW mG_isInLatest 1 := ⟨(gh_in 517 (by decide +kernel) rfl), (gh_in 61 (by decide +kernel) rfl), by decide +kernel, by decide +kernel, by decide +kernel⟩
theorem vG_isInLatest : Cond.instanceMethod mG_isInLatest.1 ∈ gh_T ∧ Cond.selects "RatchetGroup" mG_isInLatest.1 mG_isInLatest.1 ∈ gh_T := ⟨(gh_in 516 (by decide +kernel) rfl), gh_in 4 (by decide +kernel) rfl⟩
theorem wP_init : gh_MW mP_init 3 := ⟨(gh_in 521 (by decide +kernel) rfl), (gh_in 76 (by decide +kernel) rfl), by decide +kernel, by decide +kernel, by decide +kernel⟩
theorem iP_init : Cond.instanceMethod mP_init.1 ∈ gh_T := (gh_in 520 (by decide +kernel) rfl)
theorem wG_propose : gh_MW mG_propose 1 := ⟨(gh_in 539 (by decide +kernel) rfl), (gh_in 61 (by decide +kernel) rfl), by decide +kernel, by decide +kernel, by decide +kernel⟩
theorem vG_propose : Cond.instanceMethod mG_propose.1 ∈ gh_T ∧ Cond.selects "RatchetGroup" mG_propose.1 mG_propose.1 ∈ gh_T := ⟨(gh_in 538 (by decide +kernel) rfl), gh_in 5 (by decide +kernel) rfl⟩
theorem wG_remove : gh_MW mG_remove 2 := ⟨(gh_in 546 (by decide +kernel) rfl), (gh_in 61 (by decide +kernel) rfl), by decide +kernel, by decide +kernel, by decide +kernel⟩
theorem vG_remove : Cond.instanceMethod mG_remove.1 ∈ gh_T ∧ Cond.selects "RatchetGroup" mG_remove.1 mG_remove.1 ∈ gh_T := ⟨(gh_in 544 (by decide +kernel) rfl), (gh_in 545 (by decide +kernel) rfl)⟩
theorem wG_update : gh_MW mG_update 1 := ⟨(gh_in 553 (by decide +kernel) rfl), (gh_in 61 (by decide +kernel) rfl), by decide +kernel, by decide +kernel, by decide +kernel⟩
theorem vG_update : Cond.instanceMethod mG_update.1 ∈ gh_T ∧ Cond.selects "RatchetGroup" mG_update.1 mG_update.1 ∈ gh_T := ⟨(gh_in 551 (by decide +kernel) rfl), (gh_in 552 (by decide +kernel) rfl)⟩
theorem wB_keepUpdate : gh_MW mB_keepUpdate 1 := ⟨(gh_in 557 (by decide +kernel) rfl), (gh_in 63 (by decide +kernel) rfl), by decide +kernel, by decide +kernel, by decide +kernel⟩
theorem vB_keepUpdate : Cond.instanceMethod mB_keepUpdate.1 ∈ gh_T ∧ Cond.selects "RatchetGroup$Member" mB_keepUpdate.1 mB_keepUpdate.1 ∈ gh_T := ⟨(gh_in 555 (by decide +kernel) rfl), (gh_in 556 (by decide +kernel) rfl)⟩
theorem wG_commit : gh_MW mG_commit 2 := ⟨(gh_in 564 (by decide +kernel) rfl), (gh_in 61 (by decide +kernel) rfl), by decide +kernel, by decide +kernel, by decide +kernel⟩
theorem vG_commit : Cond.instanceMethod mG_commit.1 ∈ gh_T ∧ Cond.selects "RatchetGroup" mG_commit.1 mG_commit.1 ∈ gh_T := ⟨(gh_in 562 (by decide +kernel) rfl), (gh_in 563 (by decide +kernel) rfl)⟩
theorem wT_init1 : gh_MW mT_init1 1 := ⟨(gh_in 567 (by decide +kernel) rfl), (gh_in 66 (by decide +kernel) rfl), by decide +kernel, by decide +kernel, by decide +kernel⟩
theorem iT_init1 : Cond.instanceMethod mT_init1.1 ∈ gh_T := (gh_in 566 (by decide +kernel) rfl)
theorem wA_copyOf1 : gh_MW mA_copyOf1 2 := ⟨(gh_in 570 (by decide +kernel) rfl), (gh_in 64 (by decide +kernel) rfl), by decide +kernel, by decide +kernel, by decide +kernel⟩
theorem sA_copyOf1 : Cond.static mA_copyOf1.1 ∈ gh_T := (gh_in 569 (by decide +kernel) rfl)
theorem wS_ruleCount : gh_MW mS_ruleCount 0 := ⟨(gh_in 579 (by decide +kernel) rfl), (gh_in 62 (by decide +kernel) rfl), by decide +kernel, by decide +kernel, by decide +kernel⟩
theorem vS_ruleCount : Cond.instanceMethod mS_ruleCount.1 ∈ gh_T ∧ Cond.selects "RatchetGroup$Secrets" mS_ruleCount.1 mS_ruleCount.1 ∈ gh_T := ⟨(gh_in 577 (by decide +kernel) rfl), (gh_in 578 (by decide +kernel) rfl)⟩
theorem wG_doRemoves : gh_MW mG_doRemoves 1 := ⟨(gh_in 583 (by decide +kernel) rfl), (gh_in 61 (by decide +kernel) rfl), by decide +kernel, by decide +kernel, by decide +kernel⟩
theorem vG_doRemoves : Cond.instanceMethod mG_doRemoves.1 ∈ gh_T ∧ Cond.selects "RatchetGroup" mG_doRemoves.1 mG_doRemoves.1 ∈ gh_T := ⟨(gh_in 582 (by decide +kernel) rfl), gh_in 6 (by decide +kernel) rfl⟩
theorem wT_blankLeafAndPath : gh_MW mT_blankLeafAndPath 1 := ⟨(gh_in 587 (by decide +kernel) rfl), (gh_in 66 (by decide +kernel) rfl), by decide +kernel, by decide +kernel, by decide +kernel⟩
theorem vT_blankLeafAndPath : Cond.instanceMethod mT_blankLeafAndPath.1 ∈ gh_T ∧ Cond.selects "RatchetGroup$Tree" mT_blankLeafAndPath.1 mT_blankLeafAndPath.1 ∈ gh_T := ⟨(gh_in 585 (by decide +kernel) rfl), (gh_in 586 (by decide +kernel) rfl)⟩
theorem wG_pathNode : gh_MW mG_pathNode 2 := ⟨(gh_in 590 (by decide +kernel) rfl), (gh_in 61 (by decide +kernel) rfl), by decide +kernel, by decide +kernel, by decide +kernel⟩
theorem sG_pathNode : Cond.static mG_pathNode.1 ∈ gh_T := (gh_in 589 (by decide +kernel) rfl)
theorem wT_blank : gh_MW mT_blank 1 := ⟨(gh_in 594 (by decide +kernel) rfl), (gh_in 66 (by decide +kernel) rfl), by decide +kernel, by decide +kernel, by decide +kernel⟩
theorem vT_blank : Cond.instanceMethod mT_blank.1 ∈ gh_T ∧ Cond.selects "RatchetGroup$Tree" mT_blank.1 mT_blank.1 ∈ gh_T := ⟨(gh_in 592 (by decide +kernel) rfl), (gh_in 593 (by decide +kernel) rfl)⟩
theorem wG_dismiss : gh_MW mG_dismiss 1 := ⟨(gh_in 599 (by decide +kernel) rfl), (gh_in 61 (by decide +kernel) rfl), by decide +kernel, by decide +kernel, by decide +kernel⟩
theorem vG_dismiss : Cond.instanceMethod mG_dismiss.1 ∈ gh_T ∧ Cond.selects "RatchetGroup" mG_dismiss.1 mG_dismiss.1 ∈ gh_T := ⟨(gh_in 598 (by decide +kernel) rfl), gh_in 7 (by decide +kernel) rfl⟩
theorem wT_shrink : gh_MW mT_shrink 0 := ⟨(gh_in 604 (by decide +kernel) rfl), (gh_in 66 (by decide +kernel) rfl), by decide +kernel, by decide +kernel, by decide +kernel⟩
theorem vT_shrink : Cond.instanceMethod mT_shrink.1 ∈ gh_T ∧ Cond.selects "RatchetGroup$Tree" mT_shrink.1 mT_shrink.1 ∈ gh_T := ⟨(gh_in 602 (by decide +kernel) rfl), (gh_in 603 (by decide +kernel) rfl)⟩
theorem wT_firstLeafWithKey : gh_MW mT_firstLeafWithKey 1 := ⟨(gh_in 608 (by decide +kernel) rfl), (gh_in 66 (by decide +kernel) rfl), by decide +kernel, by decide +kernel, by decide +kernel⟩
theorem vT_firstLeafWithKey : Cond.instanceMethod mT_firstLeafWithKey.1 ∈ gh_T ∧ Cond.selects "RatchetGroup$Tree" mT_firstLeafWithKey.1 mT_firstLeafWithKey.1 ∈ gh_T := ⟨(gh_in 607 (by decide +kernel) rfl), gh_in 8 (by decide +kernel) rfl⟩
theorem wG_doUpdates : gh_MW mG_doUpdates 1 := ⟨(gh_in 614 (by decide +kernel) rfl), (gh_in 61 (by decide +kernel) rfl), by decide +kernel, by decide +kernel, by decide +kernel⟩
theorem vG_doUpdates : Cond.instanceMethod mG_doUpdates.1 ∈ gh_T ∧ Cond.selects "RatchetGroup" mG_doUpdates.1 mG_doUpdates.1 ∈ gh_T := ⟨(gh_in 613 (by decide +kernel) rfl), gh_in 9 (by decide +kernel) rfl⟩
theorem wG_doAdds : gh_MW mG_doAdds 1 := ⟨(gh_in 618 (by decide +kernel) rfl), (gh_in 61 (by decide +kernel) rfl), by decide +kernel, by decide +kernel, by decide +kernel⟩
theorem vG_doAdds : Cond.instanceMethod mG_doAdds.1 ∈ gh_T ∧ Cond.selects "RatchetGroup" mG_doAdds.1 mG_doAdds.1 ∈ gh_T := ⟨(gh_in 617 (by decide +kernel) rfl), gh_in 10 (by decide +kernel) rfl⟩
theorem wG_mayBeAdded : gh_MW mG_mayBeAdded 1 := ⟨(gh_in 622 (by decide +kernel) rfl), (gh_in 61 (by decide +kernel) rfl), by decide +kernel, by decide +kernel, by decide +kernel⟩
theorem vG_mayBeAdded : Cond.instanceMethod mG_mayBeAdded.1 ∈ gh_T ∧ Cond.selects "RatchetGroup" mG_mayBeAdded.1 mG_mayBeAdded.1 ∈ gh_T := ⟨(gh_in 621 (by decide +kernel) rfl), gh_in 11 (by decide +kernel) rfl⟩
theorem wG_hasLeaf : gh_MW mG_hasLeaf 1 := ⟨(gh_in 626 (by decide +kernel) rfl), (gh_in 61 (by decide +kernel) rfl), by decide +kernel, by decide +kernel, by decide +kernel⟩
theorem vG_hasLeaf : Cond.instanceMethod mG_hasLeaf.1 ∈ gh_T ∧ Cond.selects "RatchetGroup" mG_hasLeaf.1 mG_hasLeaf.1 ∈ gh_T := ⟨(gh_in 625 (by decide +kernel) rfl), gh_in 12 (by decide +kernel) rfl⟩
theorem wG_addBy : gh_MW mG_addBy 2 := ⟨(gh_in 630 (by decide +kernel) rfl), (gh_in 61 (by decide +kernel) rfl), by decide +kernel, by decide +kernel, by decide +kernel⟩
theorem vG_addBy : Cond.instanceMethod mG_addBy.1 ∈ gh_T ∧ Cond.selects "RatchetGroup" mG_addBy.1 mG_addBy.1 ∈ gh_T := ⟨(gh_in 629 (by decide +kernel) rfl), gh_in 13 (by decide +kernel) rfl⟩
theorem wT_makeRoom : gh_MW mT_makeRoom 0 := ⟨(gh_in 634 (by decide +kernel) rfl), (gh_in 66 (by decide +kernel) rfl), by decide +kernel, by decide +kernel, by decide +kernel⟩
theorem vT_makeRoom : Cond.instanceMethod mT_makeRoom.1 ∈ gh_T ∧ Cond.selects "RatchetGroup$Tree" mT_makeRoom.1 mT_makeRoom.1 ∈ gh_T := ⟨(gh_in 632 (by decide +kernel) rfl), (gh_in 633 (by decide +kernel) rfl)⟩
theorem wT_markUnmerged : gh_MW mT_markUnmerged 1 := ⟨(gh_in 638 (by decide +kernel) rfl), (gh_in 66 (by decide +kernel) rfl), by decide +kernel, by decide +kernel, by decide +kernel⟩
theorem vT_markUnmerged : Cond.instanceMethod mT_markUnmerged.1 ∈ gh_T ∧ Cond.selects "RatchetGroup$Tree" mT_markUnmerged.1 mT_markUnmerged.1 ∈ gh_T := ⟨(gh_in 636 (by decide +kernel) rfl), (gh_in 637 (by decide +kernel) rfl)⟩
theorem wG_makePath : gh_MW mG_makePath 1 := ⟨(gh_in 642 (by decide +kernel) rfl), (gh_in 61 (by decide +kernel) rfl), by decide +kernel, by decide +kernel, by decide +kernel⟩
theorem vG_makePath : Cond.instanceMethod mG_makePath.1 ∈ gh_T ∧ Cond.selects "RatchetGroup" mG_makePath.1 mG_makePath.1 ∈ gh_T := ⟨(gh_in 641 (by decide +kernel) rfl), gh_in 14 (by decide +kernel) rfl⟩
theorem wG_sideNode : gh_MW mG_sideNode 2 := ⟨(gh_in 646 (by decide +kernel) rfl), (gh_in 61 (by decide +kernel) rfl), by decide +kernel, by decide +kernel, by decide +kernel⟩
theorem sG_sideNode : Cond.static mG_sideNode.1 ∈ gh_T := (gh_in 645 (by decide +kernel) rfl)
theorem wS_derive : gh_MW mS_derive 1 := ⟨(gh_in 651 (by decide +kernel) rfl), (gh_in 62 (by decide +kernel) rfl), by decide +kernel, by decide +kernel, by decide +kernel⟩
theorem vS_derive : Cond.instanceMethod mS_derive.1 ∈ gh_T ∧ Cond.selects "RatchetGroup$Secrets" mS_derive.1 mS_derive.1 ∈ gh_T := ⟨(gh_in 649 (by decide +kernel) rfl), (gh_in 650 (by decide +kernel) rfl)⟩
theorem wS_deriveOfTwo : gh_MW mS_deriveOfTwo 2 := ⟨(gh_in 655 (by decide +kernel) rfl), (gh_in 62 (by decide +kernel) rfl), by decide +kernel, by decide +kernel, by decide +kernel⟩
theorem vS_deriveOfTwo : Cond.instanceMethod mS_deriveOfTwo.1 ∈ gh_T ∧ Cond.selects "RatchetGroup$Secrets" mS_deriveOfTwo.1 mS_deriveOfTwo.1 ∈ gh_T := ⟨(gh_in 653 (by decide +kernel) rfl), (gh_in 654 (by decide +kernel) rfl)⟩
theorem wS_tie : gh_MW mS_tie 3 := ⟨(gh_in 660 (by decide +kernel) rfl), (gh_in 62 (by decide +kernel) rfl), by decide +kernel, by decide +kernel, by decide +kernel⟩
theorem vS_tie : Cond.instanceMethod mS_tie.1 ∈ gh_T ∧ Cond.selects "RatchetGroup$Secrets" mS_tie.1 mS_tie.1 ∈ gh_T := ⟨(gh_in 658 (by decide +kernel) rfl), (gh_in 659 (by decide +kernel) rfl)⟩
theorem wG_sendToNodes : gh_MW mG_sendToNodes 3 := ⟨(gh_in 666 (by decide +kernel) rfl), (gh_in 61 (by decide +kernel) rfl), by decide +kernel, by decide +kernel, by decide +kernel⟩
theorem vG_sendToNodes : Cond.instanceMethod mG_sendToNodes.1 ∈ gh_T ∧ Cond.selects "RatchetGroup" mG_sendToNodes.1 mG_sendToNodes.1 ∈ gh_T := ⟨(gh_in 665 (by decide +kernel) rfl), gh_in 15 (by decide +kernel) rfl⟩
theorem wG_encrypt : gh_MW mG_encrypt 3 := ⟨(gh_in 670 (by decide +kernel) rfl), (gh_in 61 (by decide +kernel) rfl), by decide +kernel, by decide +kernel, by decide +kernel⟩
theorem vG_encrypt : Cond.instanceMethod mG_encrypt.1 ∈ gh_T ∧ Cond.selects "RatchetGroup" mG_encrypt.1 mG_encrypt.1 ∈ gh_T := ⟨(gh_in 669 (by decide +kernel) rfl), gh_in 16 (by decide +kernel) rfl⟩
theorem wG_sendToAdded : gh_MW mG_sendToAdded 4 := ⟨(gh_in 675 (by decide +kernel) rfl), (gh_in 61 (by decide +kernel) rfl), by decide +kernel, by decide +kernel, by decide +kernel⟩
theorem vG_sendToAdded : Cond.instanceMethod mG_sendToAdded.1 ∈ gh_T ∧ Cond.selects "RatchetGroup" mG_sendToAdded.1 mG_sendToAdded.1 ∈ gh_T := ⟨(gh_in 674 (by decide +kernel) rfl), gh_in 17 (by decide +kernel) rfl⟩
theorem wG_openEpoch : gh_MW mG_openEpoch 3 := ⟨(gh_in 679 (by decide +kernel) rfl), (gh_in 61 (by decide +kernel) rfl), by decide +kernel, by decide +kernel, by decide +kernel⟩
theorem vG_openEpoch : Cond.instanceMethod mG_openEpoch.1 ∈ gh_T ∧ Cond.selects "RatchetGroup" mG_openEpoch.1 mG_openEpoch.1 ∈ gh_T := ⟨(gh_in 678 (by decide +kernel) rfl), gh_in 18 (by decide +kernel) rfl⟩
theorem wB_moveByCommit : gh_MW mB_moveByCommit 1 := ⟨(gh_in 684 (by decide +kernel) rfl), (gh_in 63 (by decide +kernel) rfl), by decide +kernel, by decide +kernel, by decide +kernel⟩
theorem vB_moveByCommit : Cond.instanceMethod mB_moveByCommit.1 ∈ gh_T ∧ Cond.selects "RatchetGroup$Member" mB_moveByCommit.1 mB_moveByCommit.1 ∈ gh_T := ⟨(gh_in 682 (by decide +kernel) rfl), (gh_in 683 (by decide +kernel) rfl)⟩
theorem wB_dropOldKeys : gh_MW mB_dropOldKeys 1 := ⟨(gh_in 688 (by decide +kernel) rfl), (gh_in 63 (by decide +kernel) rfl), by decide +kernel, by decide +kernel, by decide +kernel⟩
theorem vB_dropOldKeys : Cond.instanceMethod mB_dropOldKeys.1 ∈ gh_T ∧ Cond.selects "RatchetGroup$Member" mB_dropOldKeys.1 mB_dropOldKeys.1 ∈ gh_T := ⟨(gh_in 687 (by decide +kernel) rfl), gh_in 19 (by decide +kernel) rfl⟩
theorem wE_lowestCounting : gh_MW mE_lowestCounting 1 := ⟨(gh_in 693 (by decide +kernel) rfl), (gh_in 65 (by decide +kernel) rfl), by decide +kernel, by decide +kernel, by decide +kernel⟩
theorem vE_lowestCounting : Cond.instanceMethod mE_lowestCounting.1 ∈ gh_T ∧ Cond.selects "RatchetGroup$Epoch" mE_lowestCounting.1 mE_lowestCounting.1 ∈ gh_T := ⟨(gh_in 691 (by decide +kernel) rfl), (gh_in 692 (by decide +kernel) rfl)⟩
theorem wB_learnPath : gh_MW mB_learnPath 2 := ⟨(gh_in 699 (by decide +kernel) rfl), (gh_in 63 (by decide +kernel) rfl), by decide +kernel, by decide +kernel, by decide +kernel⟩
theorem vB_learnPath : Cond.instanceMethod mB_learnPath.1 ∈ gh_T ∧ Cond.selects "RatchetGroup$Member" mB_learnPath.1 mB_learnPath.1 ∈ gh_T := ⟨(gh_in 697 (by decide +kernel) rfl), (gh_in 698 (by decide +kernel) rfl)⟩
theorem wH_max : gh_MW mH_max 2 := ⟨(gh_in 702 (by decide +kernel) rfl), (gh_in 67 (by decide +kernel) rfl), by decide +kernel, by decide +kernel, by decide +kernel⟩
theorem sH_max : Cond.static mH_max.1 ∈ gh_T := (gh_in 701 (by decide +kernel) rfl)
theorem wS_spread : gh_MW mS_spread 1 := ⟨(gh_in 707 (by decide +kernel) rfl), (gh_in 62 (by decide +kernel) rfl), by decide +kernel, by decide +kernel, by decide +kernel⟩
theorem vS_spread : Cond.instanceMethod mS_spread.1 ∈ gh_T ∧ Cond.selects "RatchetGroup$Secrets" mS_spread.1 mS_spread.1 ∈ gh_T := ⟨(gh_in 705 (by decide +kernel) rfl), (gh_in 706 (by decide +kernel) rfl)⟩
theorem wS_learn : gh_MW mS_learn 1 := ⟨(gh_in 713 (by decide +kernel) rfl), (gh_in 62 (by decide +kernel) rfl), by decide +kernel, by decide +kernel, by decide +kernel⟩
theorem vS_learn : Cond.instanceMethod mS_learn.1 ∈ gh_T ∧ Cond.selects "RatchetGroup$Secrets" mS_learn.1 mS_learn.1 ∈ gh_T := ⟨(gh_in 711 (by decide +kernel) rfl), (gh_in 712 (by decide +kernel) rfl)⟩
theorem wG_come : gh_MW mG_come 1 := ⟨(gh_in 720 (by decide +kernel) rfl), (gh_in 61 (by decide +kernel) rfl), by decide +kernel, by decide +kernel, by decide +kernel⟩
theorem vG_come : Cond.instanceMethod mG_come.1 ∈ gh_T ∧ Cond.selects "RatchetGroup" mG_come.1 mG_come.1 ∈ gh_T := ⟨(gh_in 718 (by decide +kernel) rfl), (gh_in 719 (by decide +kernel) rfl)⟩
theorem wB_follow : gh_MW mB_follow 1 := ⟨(gh_in 724 (by decide +kernel) rfl), (gh_in 63 (by decide +kernel) rfl), by decide +kernel, by decide +kernel, by decide +kernel⟩
theorem vB_follow : Cond.instanceMethod mB_follow.1 ∈ gh_T ∧ Cond.selects "RatchetGroup$Member" mB_follow.1 mB_follow.1 ∈ gh_T := ⟨(gh_in 722 (by decide +kernel) rfl), (gh_in 723 (by decide +kernel) rfl)⟩
theorem wB_canOpen : gh_MW mB_canOpen 2 := ⟨(gh_in 728 (by decide +kernel) rfl), (gh_in 63 (by decide +kernel) rfl), by decide +kernel, by decide +kernel, by decide +kernel⟩
theorem vB_canOpen : Cond.instanceMethod mB_canOpen.1 ∈ gh_T ∧ Cond.selects "RatchetGroup$Member" mB_canOpen.1 mB_canOpen.1 ∈ gh_T := ⟨(gh_in 727 (by decide +kernel) rfl), gh_in 20 (by decide +kernel) rfl⟩
theorem wG_earliestWelcome : gh_MW mG_earliestWelcome 1 := ⟨(gh_in 734 (by decide +kernel) rfl), (gh_in 61 (by decide +kernel) rfl), by decide +kernel, by decide +kernel, by decide +kernel⟩
theorem vG_earliestWelcome : Cond.instanceMethod mG_earliestWelcome.1 ∈ gh_T ∧ Cond.selects "RatchetGroup" mG_earliestWelcome.1 mG_earliestWelcome.1 ∈ gh_T := ⟨(gh_in 733 (by decide +kernel) rfl), gh_in 21 (by decide +kernel) rfl⟩
theorem wG_joinBy : gh_MW mG_joinBy 2 := ⟨(gh_in 738 (by decide +kernel) rfl), (gh_in 61 (by decide +kernel) rfl), by decide +kernel, by decide +kernel, by decide +kernel⟩
theorem vG_joinBy : Cond.instanceMethod mG_joinBy.1 ∈ gh_T ∧ Cond.selects "RatchetGroup" mG_joinBy.1 mG_joinBy.1 ∈ gh_T := ⟨(gh_in 737 (by decide +kernel) rfl), gh_in 22 (by decide +kernel) rfl⟩
theorem wG_compromise : gh_MW mG_compromise 1 := ⟨(gh_in 747 (by decide +kernel) rfl), (gh_in 61 (by decide +kernel) rfl), by decide +kernel, by decide +kernel, by decide +kernel⟩
theorem vG_compromise : Cond.instanceMethod mG_compromise.1 ∈ gh_T ∧ Cond.selects "RatchetGroup" mG_compromise.1 mG_compromise.1 ∈ gh_T := ⟨(gh_in 745 (by decide +kernel) rfl), (gh_in 746 (by decide +kernel) rfl)⟩
theorem wR_init : gh_MW mR_init 0 := ⟨(gh_in 753 (by decide +kernel) rfl), (gh_in 69 (by decide +kernel) rfl), by decide +kernel, by decide +kernel, by decide +kernel⟩
theorem iR_init : Cond.instanceMethod mR_init.1 ∈ gh_T := (gh_in 752 (by decide +kernel) rfl)
theorem wR_make : gh_MW mR_make 3 := ⟨(gh_in 758 (by decide +kernel) rfl), (gh_in 69 (by decide +kernel) rfl), by decide +kernel, by decide +kernel, by decide +kernel⟩
theorem vR_make : Cond.instanceMethod mR_make.1 ∈ gh_T ∧ Cond.selects "RatchetGroupModel" mR_make.1 mR_make.1 ∈ gh_T := ⟨(gh_in 757 (by decide +kernel) rfl), gh_in 23 (by decide +kernel) rfl⟩
theorem wR_leave : gh_MW mR_leave 1 := ⟨(gh_in 762 (by decide +kernel) rfl), (gh_in 69 (by decide +kernel) rfl), by decide +kernel, by decide +kernel, by decide +kernel⟩
theorem vR_leave : Cond.instanceMethod mR_leave.1 ∈ gh_T ∧ Cond.selects "RatchetGroupModel" mR_leave.1 mR_leave.1 ∈ gh_T := ⟨(gh_in 761 (by decide +kernel) rfl), gh_in 24 (by decide +kernel) rfl⟩
theorem wR_thrown : gh_MW mR_thrown 0 := ⟨(gh_in 924 (by decide +kernel) rfl), (gh_in 69 (by decide +kernel) rfl), by decide +kernel, by decide +kernel, by decide +kernel⟩
theorem vR_thrown : Cond.instanceMethod mR_thrown.1 ∈ gh_T ∧ Cond.selects "RatchetGroupModel" mR_thrown.1 mR_thrown.1 ∈ gh_T := ⟨(gh_in 922 (by decide +kernel) rfl), (gh_in 923 (by decide +kernel) rfl)⟩
theorem wR_offer : gh_MW mR_offer 1 := ⟨(gh_in 928 (by decide +kernel) rfl), (gh_in 69 (by decide +kernel) rfl), by decide +kernel, by decide +kernel, by decide +kernel⟩
theorem vR_offer : Cond.instanceMethod mR_offer.1 ∈ gh_T ∧ Cond.selects "RatchetGroupModel" mR_offer.1 mR_offer.1 ∈ gh_T := ⟨(gh_in 926 (by decide +kernel) rfl), (gh_in 927 (by decide +kernel) rfl)⟩
theorem wR_in : gh_MW mR_in 2 := ⟨(gh_in 931 (by decide +kernel) rfl), (gh_in 69 (by decide +kernel) rfl), by decide +kernel, by decide +kernel, by decide +kernel⟩
theorem sR_in : Cond.static mR_in.1 ∈ gh_T := (gh_in 930 (by decide +kernel) rfl)
theorem wR_add : gh_MW mR_add 2 := ⟨(gh_in 935 (by decide +kernel) rfl), (gh_in 69 (by decide +kernel) rfl), by decide +kernel, by decide +kernel, by decide +kernel⟩
theorem vR_add : Cond.instanceMethod mR_add.1 ∈ gh_T ∧ Cond.selects "RatchetGroupModel" mR_add.1 mR_add.1 ∈ gh_T := ⟨(gh_in 933 (by decide +kernel) rfl), (gh_in 934 (by decide +kernel) rfl)⟩
theorem wR_isAsked : gh_MW mR_isAsked 2 := ⟨(gh_in 939 (by decide +kernel) rfl), (gh_in 69 (by decide +kernel) rfl), by decide +kernel, by decide +kernel, by decide +kernel⟩
theorem vR_isAsked : Cond.instanceMethod mR_isAsked.1 ∈ gh_T ∧ Cond.selects "RatchetGroupModel" mR_isAsked.1 mR_isAsked.1 ∈ gh_T := ⟨(gh_in 938 (by decide +kernel) rfl), gh_in 25 (by decide +kernel) rfl⟩
theorem wR_isLatest : gh_MW mR_isLatest 1 := ⟨(gh_in 943 (by decide +kernel) rfl), (gh_in 69 (by decide +kernel) rfl), by decide +kernel, by decide +kernel, by decide +kernel⟩
theorem vR_isLatest : Cond.instanceMethod mR_isLatest.1 ∈ gh_T ∧ Cond.selects "RatchetGroupModel" mR_isLatest.1 mR_isLatest.1 ∈ gh_T := ⟨(gh_in 942 (by decide +kernel) rfl), gh_in 26 (by decide +kernel) rfl⟩
theorem wR_propose : gh_MW mR_propose 3 := ⟨(gh_in 947 (by decide +kernel) rfl), (gh_in 69 (by decide +kernel) rfl), by decide +kernel, by decide +kernel, by decide +kernel⟩
theorem vR_propose : Cond.instanceMethod mR_propose.1 ∈ gh_T ∧ Cond.selects "RatchetGroupModel" mR_propose.1 mR_propose.1 ∈ gh_T := ⟨(gh_in 946 (by decide +kernel) rfl), gh_in 27 (by decide +kernel) rfl⟩
theorem wR_remove : gh_MW mR_remove 2 := ⟨(gh_in 951 (by decide +kernel) rfl), (gh_in 69 (by decide +kernel) rfl), by decide +kernel, by decide +kernel, by decide +kernel⟩
theorem vR_remove : Cond.instanceMethod mR_remove.1 ∈ gh_T ∧ Cond.selects "RatchetGroupModel" mR_remove.1 mR_remove.1 ∈ gh_T := ⟨(gh_in 949 (by decide +kernel) rfl), (gh_in 950 (by decide +kernel) rfl)⟩
theorem wR_update : gh_MW mR_update 1 := ⟨(gh_in 955 (by decide +kernel) rfl), (gh_in 69 (by decide +kernel) rfl), by decide +kernel, by decide +kernel, by decide +kernel⟩
theorem vR_update : Cond.instanceMethod mR_update.1 ∈ gh_T ∧ Cond.selects "RatchetGroupModel" mR_update.1 mR_update.1 ∈ gh_T := ⟨(gh_in 953 (by decide +kernel) rfl), (gh_in 954 (by decide +kernel) rfl)⟩
theorem wR_commit : gh_MW mR_commit 2 := ⟨(gh_in 959 (by decide +kernel) rfl), (gh_in 69 (by decide +kernel) rfl), by decide +kernel, by decide +kernel, by decide +kernel⟩
theorem vR_commit : Cond.instanceMethod mR_commit.1 ∈ gh_T ∧ Cond.selects "RatchetGroupModel" mR_commit.1 mR_commit.1 ∈ gh_T := ⟨(gh_in 957 (by decide +kernel) rfl), (gh_in 958 (by decide +kernel) rfl)⟩
theorem wR_change : gh_MW mR_change 2 := ⟨(gh_in 963 (by decide +kernel) rfl), (gh_in 69 (by decide +kernel) rfl), by decide +kernel, by decide +kernel, by decide +kernel⟩
theorem vR_change : Cond.instanceMethod mR_change.1 ∈ gh_T ∧ Cond.selects "RatchetGroupModel" mR_change.1 mR_change.1 ∈ gh_T := ⟨(gh_in 962 (by decide +kernel) rfl), gh_in 28 (by decide +kernel) rfl⟩
theorem wR_copyTree : gh_MW mR_copyTree 2 := ⟨(gh_in 967 (by decide +kernel) rfl), (gh_in 69 (by decide +kernel) rfl), by decide +kernel, by decide +kernel, by decide +kernel⟩
theorem vR_copyTree : Cond.instanceMethod mR_copyTree.1 ∈ gh_T ∧ Cond.selects "RatchetGroupModel" mR_copyTree.1 mR_copyTree.1 ∈ gh_T := ⟨(gh_in 966 (by decide +kernel) rfl), gh_in 29 (by decide +kernel) rfl⟩
theorem wR_width : gh_MW mR_width 1 := ⟨(gh_in 971 (by decide +kernel) rfl), (gh_in 69 (by decide +kernel) rfl), by decide +kernel, by decide +kernel, by decide +kernel⟩
theorem vR_width : Cond.instanceMethod mR_width.1 ∈ gh_T ∧ Cond.selects "RatchetGroupModel" mR_width.1 mR_width.1 ∈ gh_T := ⟨(gh_in 970 (by decide +kernel) rfl), gh_in 30 (by decide +kernel) rfl⟩
theorem wR_findRemoves : gh_MW mR_findRemoves 2 := ⟨(gh_in 975 (by decide +kernel) rfl), (gh_in 69 (by decide +kernel) rfl), by decide +kernel, by decide +kernel, by decide +kernel⟩
theorem vR_findRemoves : Cond.instanceMethod mR_findRemoves.1 ∈ gh_T ∧ Cond.selects "RatchetGroupModel" mR_findRemoves.1 mR_findRemoves.1 ∈ gh_T := ⟨(gh_in 974 (by decide +kernel) rfl), gh_in 31 (by decide +kernel) rfl⟩
theorem wR_findUpdates : gh_MW mR_findUpdates 2 := ⟨(gh_in 979 (by decide +kernel) rfl), (gh_in 69 (by decide +kernel) rfl), by decide +kernel, by decide +kernel, by decide +kernel⟩
theorem vR_findUpdates : Cond.instanceMethod mR_findUpdates.1 ∈ gh_T ∧ Cond.selects "RatchetGroupModel" mR_findUpdates.1 mR_findUpdates.1 ∈ gh_T := ⟨(gh_in 978 (by decide +kernel) rfl), gh_in 32 (by decide +kernel) rfl⟩
theorem wR_doRemoves : gh_MW mR_doRemoves 1 := ⟨(gh_in 983 (by decide +kernel) rfl), (gh_in 69 (by decide +kernel) rfl), by decide +kernel, by decide +kernel, by decide +kernel⟩
theorem vR_doRemoves : Cond.instanceMethod mR_doRemoves.1 ∈ gh_T ∧ Cond.selects "RatchetGroupModel" mR_doRemoves.1 mR_doRemoves.1 ∈ gh_T := ⟨(gh_in 982 (by decide +kernel) rfl), gh_in 33 (by decide +kernel) rfl⟩
theorem wR_blank : gh_MW mR_blank 2 := ⟨(gh_in 987 (by decide +kernel) rfl), (gh_in 69 (by decide +kernel) rfl), by decide +kernel, by decide +kernel, by decide +kernel⟩
theorem vR_blank : Cond.instanceMethod mR_blank.1 ∈ gh_T ∧ Cond.selects "RatchetGroupModel" mR_blank.1 mR_blank.1 ∈ gh_T := ⟨(gh_in 986 (by decide +kernel) rfl), gh_in 34 (by decide +kernel) rfl⟩
theorem wR_blankPath : gh_MW mR_blankPath 2 := ⟨(gh_in 991 (by decide +kernel) rfl), (gh_in 69 (by decide +kernel) rfl), by decide +kernel, by decide +kernel, by decide +kernel⟩
theorem vR_blankPath : Cond.instanceMethod mR_blankPath.1 ∈ gh_T ∧ Cond.selects "RatchetGroupModel" mR_blankPath.1 mR_blankPath.1 ∈ gh_T := ⟨(gh_in 990 (by decide +kernel) rfl), gh_in 35 (by decide +kernel) rfl⟩
theorem wR_above : gh_MW mR_above 2 := ⟨(gh_in 994 (by decide +kernel) rfl), (gh_in 69 (by decide +kernel) rfl), by decide +kernel, by decide +kernel, by decide +kernel⟩
theorem sR_above : Cond.static mR_above.1 ∈ gh_T := (gh_in 993 (by decide +kernel) rfl)
theorem wR_isRightBlank : gh_MW mR_isRightBlank 1 := ⟨(gh_in 998 (by decide +kernel) rfl), (gh_in 69 (by decide +kernel) rfl), by decide +kernel, by decide +kernel, by decide +kernel⟩
theorem vR_isRightBlank : Cond.instanceMethod mR_isRightBlank.1 ∈ gh_T ∧ Cond.selects "RatchetGroupModel" mR_isRightBlank.1 mR_isRightBlank.1 ∈ gh_T := ⟨(gh_in 997 (by decide +kernel) rfl), gh_in 36 (by decide +kernel) rfl⟩
theorem wR_doUpdates : gh_MW mR_doUpdates 1 := ⟨(gh_in 1002 (by decide +kernel) rfl), (gh_in 69 (by decide +kernel) rfl), by decide +kernel, by decide +kernel, by decide +kernel⟩
theorem vR_doUpdates : Cond.instanceMethod mR_doUpdates.1 ∈ gh_T ∧ Cond.selects "RatchetGroupModel" mR_doUpdates.1 mR_doUpdates.1 ∈ gh_T := ⟨(gh_in 1001 (by decide +kernel) rfl), gh_in 37 (by decide +kernel) rfl⟩
theorem wR_set : gh_MW mR_set 3 := ⟨(gh_in 1006 (by decide +kernel) rfl), (gh_in 69 (by decide +kernel) rfl), by decide +kernel, by decide +kernel, by decide +kernel⟩
theorem vR_set : Cond.instanceMethod mR_set.1 ∈ gh_T ∧ Cond.selects "RatchetGroupModel" mR_set.1 mR_set.1 ∈ gh_T := ⟨(gh_in 1005 (by decide +kernel) rfl), gh_in 38 (by decide +kernel) rfl⟩
theorem wR_doAdds : gh_MW mR_doAdds 1 := ⟨(gh_in 1010 (by decide +kernel) rfl), (gh_in 69 (by decide +kernel) rfl), by decide +kernel, by decide +kernel, by decide +kernel⟩
theorem vR_doAdds : Cond.instanceMethod mR_doAdds.1 ∈ gh_T ∧ Cond.selects "RatchetGroupModel" mR_doAdds.1 mR_doAdds.1 ∈ gh_T := ⟨(gh_in 1009 (by decide +kernel) rfl), gh_in 39 (by decide +kernel) rfl⟩
theorem wR_mayAdd : gh_MW mR_mayAdd 2 := ⟨(gh_in 1014 (by decide +kernel) rfl), (gh_in 69 (by decide +kernel) rfl), by decide +kernel, by decide +kernel, by decide +kernel⟩
theorem vR_mayAdd : Cond.instanceMethod mR_mayAdd.1 ∈ gh_T ∧ Cond.selects "RatchetGroupModel" mR_mayAdd.1 mR_mayAdd.1 ∈ gh_T := ⟨(gh_in 1013 (by decide +kernel) rfl), gh_in 40 (by decide +kernel) rfl⟩
theorem wR_leafOf : gh_MW mR_leafOf 2 := ⟨(gh_in 1018 (by decide +kernel) rfl), (gh_in 69 (by decide +kernel) rfl), by decide +kernel, by decide +kernel, by decide +kernel⟩
theorem vR_leafOf : Cond.instanceMethod mR_leafOf.1 ∈ gh_T ∧ Cond.selects "RatchetGroupModel" mR_leafOf.1 mR_leafOf.1 ∈ gh_T := ⟨(gh_in 1017 (by decide +kernel) rfl), gh_in 41 (by decide +kernel) rfl⟩
theorem wR_freeLeaf : gh_MW mR_freeLeaf 1 := ⟨(gh_in 1022 (by decide +kernel) rfl), (gh_in 69 (by decide +kernel) rfl), by decide +kernel, by decide +kernel, by decide +kernel⟩
theorem vR_freeLeaf : Cond.instanceMethod mR_freeLeaf.1 ∈ gh_T ∧ Cond.selects "RatchetGroupModel" mR_freeLeaf.1 mR_freeLeaf.1 ∈ gh_T := ⟨(gh_in 1021 (by decide +kernel) rfl), gh_in 42 (by decide +kernel) rfl⟩
theorem wR_renew : gh_MW mR_renew 2 := ⟨(gh_in 1026 (by decide +kernel) rfl), (gh_in 69 (by decide +kernel) rfl), by decide +kernel, by decide +kernel, by decide +kernel⟩
theorem vR_renew : Cond.instanceMethod mR_renew.1 ∈ gh_T ∧ Cond.selects "RatchetGroupModel" mR_renew.1 mR_renew.1 ∈ gh_T := ⟨(gh_in 1025 (by decide +kernel) rfl), gh_in 43 (by decide +kernel) rfl⟩
theorem wR_resolve : gh_MW mR_resolve 2 := ⟨(gh_in 1030 (by decide +kernel) rfl), (gh_in 69 (by decide +kernel) rfl), by decide +kernel, by decide +kernel, by decide +kernel⟩
theorem vR_resolve : Cond.instanceMethod mR_resolve.1 ∈ gh_T ∧ Cond.selects "RatchetGroupModel" mR_resolve.1 mR_resolve.1 ∈ gh_T := ⟨(gh_in 1029 (by decide +kernel) rfl), gh_in 44 (by decide +kernel) rfl⟩
theorem wR_height : gh_MW mR_height 1 := ⟨(gh_in 1033 (by decide +kernel) rfl), (gh_in 69 (by decide +kernel) rfl), by decide +kernel, by decide +kernel, by decide +kernel⟩
theorem sR_height : Cond.static mR_height.1 ∈ gh_T := (gh_in 1032 (by decide +kernel) rfl)
theorem wR_of : gh_MW mR_of 3 := ⟨(gh_in 1037 (by decide +kernel) rfl), (gh_in 69 (by decide +kernel) rfl), by decide +kernel, by decide +kernel, by decide +kernel⟩
theorem vR_of : Cond.instanceMethod mR_of.1 ∈ gh_T ∧ Cond.selects "RatchetGroupModel" mR_of.1 mR_of.1 ∈ gh_T := ⟨(gh_in 1036 (by decide +kernel) rfl), gh_in 45 (by decide +kernel) rfl⟩
theorem wR_encrypt : gh_MW mR_encrypt 3 := ⟨(gh_in 1041 (by decide +kernel) rfl), (gh_in 69 (by decide +kernel) rfl), by decide +kernel, by decide +kernel, by decide +kernel⟩
theorem vR_encrypt : Cond.instanceMethod mR_encrypt.1 ∈ gh_T ∧ Cond.selects "RatchetGroupModel" mR_encrypt.1 mR_encrypt.1 ∈ gh_T := ⟨(gh_in 1040 (by decide +kernel) rfl), gh_in 46 (by decide +kernel) rfl⟩
theorem wR_welcome : gh_MW mR_welcome 2 := ⟨(gh_in 1045 (by decide +kernel) rfl), (gh_in 69 (by decide +kernel) rfl), by decide +kernel, by decide +kernel, by decide +kernel⟩
theorem vR_welcome : Cond.instanceMethod mR_welcome.1 ∈ gh_T ∧ Cond.selects "RatchetGroupModel" mR_welcome.1 mR_welcome.1 ∈ gh_T := ⟨(gh_in 1044 (by decide +kernel) rfl), gh_in 47 (by decide +kernel) rfl⟩
theorem wR_meeting : gh_MW mR_meeting 2 := ⟨(gh_in 1049 (by decide +kernel) rfl), (gh_in 69 (by decide +kernel) rfl), by decide +kernel, by decide +kernel, by decide +kernel⟩
theorem vR_meeting : Cond.instanceMethod mR_meeting.1 ∈ gh_T ∧ Cond.selects "RatchetGroupModel" mR_meeting.1 mR_meeting.1 ∈ gh_T := ⟨(gh_in 1048 (by decide +kernel) rfl), gh_in 48 (by decide +kernel) rfl⟩
theorem wR_advance : gh_MW mR_advance 3 := ⟨(gh_in 1053 (by decide +kernel) rfl), (gh_in 69 (by decide +kernel) rfl), by decide +kernel, by decide +kernel, by decide +kernel⟩
theorem vR_advance : Cond.instanceMethod mR_advance.1 ∈ gh_T ∧ Cond.selects "RatchetGroupModel" mR_advance.1 mR_advance.1 ∈ gh_T := ⟨(gh_in 1052 (by decide +kernel) rfl), gh_in 49 (by decide +kernel) rfl⟩
theorem wR_keep : gh_MW mR_keep 2 := ⟨(gh_in 1057 (by decide +kernel) rfl), (gh_in 69 (by decide +kernel) rfl), by decide +kernel, by decide +kernel, by decide +kernel⟩
theorem vR_keep : Cond.instanceMethod mR_keep.1 ∈ gh_T ∧ Cond.selects "RatchetGroupModel" mR_keep.1 mR_keep.1 ∈ gh_T := ⟨(gh_in 1056 (by decide +kernel) rfl), gh_in 50 (by decide +kernel) rfl⟩
theorem wR_tell : gh_MW mR_tell 3 := ⟨(gh_in 1061 (by decide +kernel) rfl), (gh_in 69 (by decide +kernel) rfl), by decide +kernel, by decide +kernel, by decide +kernel⟩
theorem vR_tell : Cond.instanceMethod mR_tell.1 ∈ gh_T ∧ Cond.selects "RatchetGroupModel" mR_tell.1 mR_tell.1 ∈ gh_T := ⟨(gh_in 1060 (by decide +kernel) rfl), gh_in 51 (by decide +kernel) rfl⟩
theorem wR_come : gh_MW mR_come 1 := ⟨(gh_in 1065 (by decide +kernel) rfl), (gh_in 69 (by decide +kernel) rfl), by decide +kernel, by decide +kernel, by decide +kernel⟩
theorem vR_come : Cond.instanceMethod mR_come.1 ∈ gh_T ∧ Cond.selects "RatchetGroupModel" mR_come.1 mR_come.1 ∈ gh_T := ⟨(gh_in 1063 (by decide +kernel) rfl), (gh_in 1064 (by decide +kernel) rfl)⟩
theorem wR_nextPackage : gh_MW mR_nextPackage 1 := ⟨(gh_in 1069 (by decide +kernel) rfl), (gh_in 69 (by decide +kernel) rfl), by decide +kernel, by decide +kernel, by decide +kernel⟩
theorem vR_nextPackage : Cond.instanceMethod mR_nextPackage.1 ∈ gh_T ∧ Cond.selects "RatchetGroupModel" mR_nextPackage.1 mR_nextPackage.1 ∈ gh_T := ⟨(gh_in 1068 (by decide +kernel) rfl), gh_in 52 (by decide +kernel) rfl⟩
theorem wR_join : gh_MW mR_join 2 := ⟨(gh_in 1073 (by decide +kernel) rfl), (gh_in 69 (by decide +kernel) rfl), by decide +kernel, by decide +kernel, by decide +kernel⟩
theorem vR_join : Cond.instanceMethod mR_join.1 ∈ gh_T ∧ Cond.selects "RatchetGroupModel" mR_join.1 mR_join.1 ∈ gh_T := ⟨(gh_in 1072 (by decide +kernel) rfl), gh_in 53 (by decide +kernel) rfl⟩
theorem wR_follow : gh_MW mR_follow 1 := ⟨(gh_in 1077 (by decide +kernel) rfl), (gh_in 69 (by decide +kernel) rfl), by decide +kernel, by decide +kernel, by decide +kernel⟩
theorem vR_follow : Cond.instanceMethod mR_follow.1 ∈ gh_T ∧ Cond.selects "RatchetGroupModel" mR_follow.1 mR_follow.1 ∈ gh_T := ⟨(gh_in 1076 (by decide +kernel) rfl), gh_in 54 (by decide +kernel) rfl⟩
theorem wR_gather : gh_MW mR_gather 1 := ⟨(gh_in 1081 (by decide +kernel) rfl), (gh_in 69 (by decide +kernel) rfl), by decide +kernel, by decide +kernel, by decide +kernel⟩
theorem vR_gather : Cond.instanceMethod mR_gather.1 ∈ gh_T ∧ Cond.selects "RatchetGroupModel" mR_gather.1 mR_gather.1 ∈ gh_T := ⟨(gh_in 1080 (by decide +kernel) rfl), gh_in 55 (by decide +kernel) rfl⟩
theorem wR_hold : gh_MW mR_hold 1 := ⟨(gh_in 1085 (by decide +kernel) rfl), (gh_in 69 (by decide +kernel) rfl), by decide +kernel, by decide +kernel, by decide +kernel⟩
theorem vR_hold : Cond.instanceMethod mR_hold.1 ∈ gh_T ∧ Cond.selects "RatchetGroupModel" mR_hold.1 mR_hold.1 ∈ gh_T := ⟨(gh_in 1084 (by decide +kernel) rfl), gh_in 56 (by decide +kernel) rfl⟩
theorem wR_isHeld : gh_MW mR_isHeld 1 := ⟨(gh_in 1089 (by decide +kernel) rfl), (gh_in 69 (by decide +kernel) rfl), by decide +kernel, by decide +kernel, by decide +kernel⟩
theorem vR_isHeld : Cond.instanceMethod mR_isHeld.1 ∈ gh_T ∧ Cond.selects "RatchetGroupModel" mR_isHeld.1 mR_isHeld.1 ∈ gh_T := ⟨(gh_in 1088 (by decide +kernel) rfl), gh_in 57 (by decide +kernel) rfl⟩
theorem wR_compromise : gh_MW mR_compromise 1 := ⟨(gh_in 1093 (by decide +kernel) rfl), (gh_in 69 (by decide +kernel) rfl), by decide +kernel, by decide +kernel, by decide +kernel⟩
theorem vR_compromise : Cond.instanceMethod mR_compromise.1 ∈ gh_T ∧ Cond.selects "RatchetGroupModel" mR_compromise.1 mR_compromise.1 ∈ gh_T := ⟨(gh_in 1091 (by decide +kernel) rfl), (gh_in 1092 (by decide +kernel) rfl)⟩
theorem wR_member : gh_MW mR_member 2 := ⟨(gh_in 1097 (by decide +kernel) rfl), (gh_in 69 (by decide +kernel) rfl), by decide +kernel, by decide +kernel, by decide +kernel⟩
theorem vR_member : Cond.instanceMethod mR_member.1 ∈ gh_T ∧ Cond.selects "RatchetGroupModel" mR_member.1 mR_member.1 ∈ gh_T := ⟨(gh_in 1095 (by decide +kernel) rfl), (gh_in 1096 (by decide +kernel) rfl)⟩
theorem wR_holds : gh_MW mR_holds 2 := ⟨(gh_in 1101 (by decide +kernel) rfl), (gh_in 69 (by decide +kernel) rfl), by decide +kernel, by decide +kernel, by decide +kernel⟩
theorem vR_holds : Cond.instanceMethod mR_holds.1 ∈ gh_T ∧ Cond.selects "RatchetGroupModel" mR_holds.1 mR_holds.1 ∈ gh_T := ⟨(gh_in 1099 (by decide +kernel) rfl), (gh_in 1100 (by decide +kernel) rfl)⟩
theorem wR_has : gh_MW mR_has 1 := ⟨(gh_in 1105 (by decide +kernel) rfl), (gh_in 69 (by decide +kernel) rfl), by decide +kernel, by decide +kernel, by decide +kernel⟩
theorem vR_has : Cond.instanceMethod mR_has.1 ∈ gh_T ∧ Cond.selects "RatchetGroupModel" mR_has.1 mR_has.1 ∈ gh_T := ⟨(gh_in 1103 (by decide +kernel) rfl), (gh_in 1104 (by decide +kernel) rfl)⟩
theorem wR_node : gh_MW mR_node 3 := ⟨(gh_in 1109 (by decide +kernel) rfl), (gh_in 69 (by decide +kernel) rfl), by decide +kernel, by decide +kernel, by decide +kernel⟩
theorem vR_node : Cond.instanceMethod mR_node.1 ∈ gh_T ∧ Cond.selects "RatchetGroupModel" mR_node.1 mR_node.1 ∈ gh_T := ⟨(gh_in 1107 (by decide +kernel) rfl), (gh_in 1108 (by decide +kernel) rfl)⟩
theorem wR_epoch : gh_MW mR_epoch 2 := ⟨(gh_in 1113 (by decide +kernel) rfl), (gh_in 69 (by decide +kernel) rfl), by decide +kernel, by decide +kernel, by decide +kernel⟩
theorem vR_epoch : Cond.instanceMethod mR_epoch.1 ∈ gh_T ∧ Cond.selects "RatchetGroupModel" mR_epoch.1 mR_epoch.1 ∈ gh_T := ⟨(gh_in 1111 (by decide +kernel) rfl), (gh_in 1112 (by decide +kernel) rfl)⟩
theorem wR_epochs : gh_MW mR_epochs 0 := ⟨(gh_in 1117 (by decide +kernel) rfl), (gh_in 69 (by decide +kernel) rfl), by decide +kernel, by decide +kernel, by decide +kernel⟩
theorem vR_epochs : Cond.instanceMethod mR_epochs.1 ∈ gh_T ∧ Cond.selects "RatchetGroupModel" mR_epochs.1 mR_epochs.1 ∈ gh_T := ⟨(gh_in 1115 (by decide +kernel) rfl), (gh_in 1116 (by decide +kernel) rfl)⟩
theorem wR_waiting : gh_MW mR_waiting 0 := ⟨(gh_in 1121 (by decide +kernel) rfl), (gh_in 69 (by decide +kernel) rfl), by decide +kernel, by decide +kernel, by decide +kernel⟩
theorem vR_waiting : Cond.instanceMethod mR_waiting.1 ∈ gh_T ∧ Cond.selects "RatchetGroupModel" mR_waiting.1 mR_waiting.1 ∈ gh_T := ⟨(gh_in 1119 (by decide +kernel) rfl), (gh_in 1120 (by decide +kernel) rfl)⟩
theorem wR_isKnown : gh_MW mR_isKnown 1 := ⟨(gh_in 1125 (by decide +kernel) rfl), (gh_in 69 (by decide +kernel) rfl), by decide +kernel, by decide +kernel, by decide +kernel⟩
theorem vR_isKnown : Cond.instanceMethod mR_isKnown.1 ∈ gh_T ∧ Cond.selects "RatchetGroupModel" mR_isKnown.1 mR_isKnown.1 ∈ gh_T := ⟨(gh_in 1123 (by decide +kernel) rfl), (gh_in 1124 (by decide +kernel) rfl)⟩
theorem wR_intrude : gh_MW mR_intrude 0 := ⟨(gh_in 1129 (by decide +kernel) rfl), (gh_in 69 (by decide +kernel) rfl), by decide +kernel, by decide +kernel, by decide +kernel⟩
theorem vR_intrude : Cond.instanceMethod mR_intrude.1 ∈ gh_T ∧ Cond.selects "RatchetGroupModel" mR_intrude.1 mR_intrude.1 ∈ gh_T := ⟨(gh_in 1128 (by decide +kernel) rfl), gh_in 58 (by decide +kernel) rfl⟩
theorem wR_follows : gh_MW mR_follows 1 := ⟨(gh_in 1133 (by decide +kernel) rfl), (gh_in 69 (by decide +kernel) rfl), by decide +kernel, by decide +kernel, by decide +kernel⟩
theorem vR_follows : Cond.instanceMethod mR_follows.1 ∈ gh_T ∧ Cond.selects "RatchetGroupModel" mR_follows.1 mR_follows.1 ∈ gh_T := ⟨(gh_in 1132 (by decide +kernel) rfl), gh_in 59 (by decide +kernel) rfl⟩
theorem wR_isOpen : gh_MW mR_isOpen 2 := ⟨(gh_in 1137 (by decide +kernel) rfl), (gh_in 69 (by decide +kernel) rfl), by decide +kernel, by decide +kernel, by decide +kernel⟩
theorem vR_isOpen : Cond.instanceMethod mR_isOpen.1 ∈ gh_T ∧ Cond.selects "RatchetGroupModel" mR_isOpen.1 mR_isOpen.1 ∈ gh_T := ⟨(gh_in 1135 (by decide +kernel) rfl), (gh_in 1136 (by decide +kernel) rfl)⟩
theorem wR_known : gh_MW mR_known 0 := ⟨(gh_in 1141 (by decide +kernel) rfl), (gh_in 69 (by decide +kernel) rfl), by decide +kernel, by decide +kernel, by decide +kernel⟩
theorem vR_known : Cond.instanceMethod mR_known.1 ∈ gh_T ∧ Cond.selects "RatchetGroupModel" mR_known.1 mR_known.1 ∈ gh_T := ⟨(gh_in 1139 (by decide +kernel) rfl), (gh_in 1140 (by decide +kernel) rfl)⟩
theorem lL_37 : gh_ML "RatchetGroupLaw" 37 mG_init.1 := Or.inl (gh_in 80 (by decide +kernel) rfl)
theorem oG_3 : Cond.methodLink "RatchetGroup" 3 objectInit ∈ gh_T := (gh_in 83 (by decide +kernel) rfl)
theorem lG_11 : gh_ML "RatchetGroup" 11 mS_init.1 := Or.inl (gh_in 88 (by decide +kernel) rfl)
theorem oS_3 : Cond.methodLink "RatchetGroup$Secrets" 3 objectInit ∈ gh_T := (gh_in 91 (by decide +kernel) rfl)
theorem lG_47 : gh_ML "RatchetGroup" 47 mB_init.1 := Or.inl (gh_in 122 (by decide +kernel) rfl)
theorem oB_3 : Cond.methodLink "RatchetGroup$Member" 3 objectInit ∈ gh_T := (gh_in 125 (by decide +kernel) rfl)
theorem lB_28 : gh_ML "RatchetGroup$Member" 28 mA_fill.1 := Or.inl (gh_in 126 (by decide +kernel) rfl)
theorem lG_48 : gh_ML "RatchetGroup" 48 mA_fill.1 := Or.inl (gh_in 155 (by decide +kernel) rfl)
theorem lG_56 : gh_ML "RatchetGroup" 56 mT_init0.1 := Or.inl (gh_in 159 (by decide +kernel) rfl)
theorem oT_3 : Cond.methodLink "RatchetGroup$Tree" 3 objectInit ∈ gh_T := (gh_in 162 (by decide +kernel) rfl)
theorem lT_21 : gh_ML "RatchetGroup$Tree" 21 mA_fill.1 := Or.inl (gh_in 163 (by decide +kernel) rfl)
theorem lG_57 : gh_ML "RatchetGroup" 57 mE_init.1 := Or.inl (gh_in 179 (by decide +kernel) rfl)
theorem oE_3 : Cond.methodLink "RatchetGroup$Epoch" 3 objectInit ∈ gh_T := (gh_in 182 (by decide +kernel) rfl)
theorem lG_64 : gh_ML "RatchetGroup" 64 mS_fresh.1 := Or.inl (gh_in 223 (by decide +kernel) rfl)
theorem lS_29 : gh_ML "RatchetGroup$Secrets" 29 mA_copyOf0.1 := Or.inl (gh_in 227 (by decide +kernel) rfl)
theorem lA_304 : gh_ML "java/util/Arrays" 304 mH_min.1 := Or.inl (gh_in 237 (by decide +kernel) rfl)
theorem lG_68 : gh_ML "RatchetGroup" 68 mT_give.1 := Or.inl (gh_in 243 (by decide +kernel) rfl)
theorem lT_35 : gh_ML "RatchetGroup$Tree" 35 mT_isThere.1 := Or.inl (gh_in 247 (by decide +kernel) rfl)
theorem lG_79 : gh_ML "RatchetGroup" 79 mB_enter.1 := Or.inl (gh_in 251 (by decide +kernel) rfl)
theorem lB_37 : gh_ML "RatchetGroup$Member" 37 mB_leave.1 := Or.inl (gh_in 255 (by decide +kernel) rfl)
theorem lB_50 : gh_ML "RatchetGroup$Member" 50 mG_leafNode.1 := Or.inr ⟨"RatchetGroup", List.mem_of_getElem? (i := 4) rfl⟩
theorem lB_54 : gh_ML "RatchetGroup$Member" 54 mT_keyOf.1 := Or.inl (gh_in 262 (by decide +kernel) rfl)
theorem lL_71 : gh_ML "RatchetGroupLaw" 71 mG_member.1 := Or.inl (gh_in 297 (by decide +kernel) rfl)
theorem lG_83 : gh_ML "RatchetGroup" 83 mG_isMember.1 := Or.inl (gh_in 301 (by decide +kernel) rfl)
theorem lG_175 : gh_ML "RatchetGroup" 175 mG_gather.1 := Or.inl (gh_in 304 (by decide +kernel) rfl)
theorem lG_324 : gh_ML "RatchetGroup" 324 mB_gatherInto.1 := Or.inl (gh_in 308 (by decide +kernel) rfl)
theorem lL_75 : gh_ML "RatchetGroupLaw" 75 mG_holds.1 := Or.inl (gh_in 312 (by decide +kernel) rfl)
theorem lG_184 : gh_ML "RatchetGroup" 184 mG_isEpoch.1 := Or.inl (gh_in 316 (by decide +kernel) rfl)
theorem lG_187 : gh_ML "RatchetGroup" 187 mT_keyOf.1 := Or.inl (gh_in 320 (by decide +kernel) rfl)
theorem lL_80 : gh_ML "RatchetGroupLaw" 80 mG_has.1 := Or.inl (gh_in 321 (by decide +kernel) rfl)
theorem lL_85 : gh_ML "RatchetGroupLaw" 85 mG_node.1 := Or.inl (gh_in 325 (by decide +kernel) rfl)
theorem lG_191 : gh_ML "RatchetGroup" 191 mT_isThere.1 := Or.inl (gh_in 329 (by decide +kernel) rfl)
theorem lG_194 : gh_ML "RatchetGroup" 194 mT_unmergedAt.1 := Or.inl (gh_in 330 (by decide +kernel) rfl)
theorem lG_197 : gh_ML "RatchetGroup" 197 mT_bornAt.1 := Or.inl (gh_in 334 (by decide +kernel) rfl)
theorem lG_200 : gh_ML "RatchetGroup" 200 mG_heightOf.1 := Or.inl (gh_in 338 (by decide +kernel) rfl)
theorem lG_207 : gh_ML "RatchetGroup" 207 mI_bitCount.1 := Or.inl (gh_in 341 (by decide +kernel) rfl)
theorem lG_203 : gh_ML "RatchetGroup" 203 mT_resolution.1 := Or.inl (gh_in 347 (by decide +kernel) rfl)
theorem lT_55 : gh_ML "RatchetGroup$Tree" 55 mG_bit.1 := Or.inr ⟨"RatchetGroup", List.mem_of_getElem? (i := 5) rfl⟩
theorem lT_64 : gh_ML "RatchetGroup$Tree" 64 mG_leafNodes.1 := Or.inr ⟨"RatchetGroup", List.mem_of_getElem? (i := 6) rfl⟩
theorem lG_239 : gh_ML "RatchetGroup" 239 mG_bit.1 := Or.inl (gh_in 357 (by decide +kernel) rfl)
theorem lG_233 : gh_ML "RatchetGroup" 233 mG_leafNode.1 := Or.inl (gh_in 358 (by decide +kernel) rfl)
theorem lT_67 : gh_ML "RatchetGroup$Tree" 67 mT_resolution.1 := Or.inl (gh_in 359 (by decide +kernel) rfl)
theorem lL_90 : gh_ML "RatchetGroupLaw" 90 mG_epoch.1 := Or.inl (gh_in 360 (by decide +kernel) rfl)
theorem lL_94 : gh_ML "RatchetGroupLaw" 94 mG_epochs.1 := Or.inl (gh_in 364 (by decide +kernel) rfl)
theorem lL_98 : gh_ML "RatchetGroupLaw" 98 mG_waiting.1 := Or.inl (gh_in 368 (by decide +kernel) rfl)
theorem lL_102 : gh_ML "RatchetGroupLaw" 102 mG_isKnown.1 := Or.inl (gh_in 372 (by decide +kernel) rfl)
theorem lG_224 : gh_ML "RatchetGroup" 224 mS_isOut.1 := Or.inl (gh_in 376 (by decide +kernel) rfl)
theorem lL_106 : gh_ML "RatchetGroupLaw" 106 mG_isOpen.1 := Or.inl (gh_in 380 (by decide +kernel) rfl)
theorem lL_110 : gh_ML "RatchetGroupLaw" 110 mG_known.1 := Or.inl (gh_in 384 (by decide +kernel) rfl)
theorem lL_41 : gh_ML "RatchetGroupLaw" 41 mL_offer.1 := Or.inl (gh_in 388 (by decide +kernel) rfl)
theorem lL_7 : gh_ML "RatchetGroupLaw" 7 mG_offer.1 := Or.inl (gh_in 393 (by decide +kernel) rfl)
theorem lG_96 : gh_ML "RatchetGroup" 96 mK_init.1 := Or.inl (gh_in 475 (by decide +kernel) rfl)
theorem oK_3 : Cond.methodLink "RatchetGroup$KeyPackage" 3 objectInit ∈ gh_T := (gh_in 478 (by decide +kernel) rfl)
theorem lL_51 : gh_ML "RatchetGroupLaw" 51 mL_add.1 := Or.inl (gh_in 503 (by decide +kernel) rfl)
theorem lL_17 : gh_ML "RatchetGroupLaw" 17 mG_add.1 := Or.inl (gh_in 506 (by decide +kernel) rfl)
theorem lG_98 : gh_ML "RatchetGroup" 98 mG_mayPropose.1 := Or.inl (gh_in 510 (by decide +kernel) rfl)
theorem lG_113 : gh_ML "RatchetGroup" 113 mG_isInLatest.1 := Or.inl (gh_in 514 (by decide +kernel) rfl)
theorem lG_101 : gh_ML "RatchetGroup" 101 mP_init.1 := Or.inl (gh_in 519 (by decide +kernel) rfl)
theorem oP_1 : Cond.methodLink "RatchetGroup$Proposal" 1 objectInit ∈ gh_T := (gh_in 522 (by decide +kernel) rfl)
theorem lG_102 : gh_ML "RatchetGroup" 102 mG_propose.1 := Or.inl (gh_in 536 (by decide +kernel) rfl)
theorem lL_55 : gh_ML "RatchetGroupLaw" 55 mL_remove.1 := Or.inl (gh_in 540 (by decide +kernel) rfl)
theorem lL_21 : gh_ML "RatchetGroupLaw" 21 mG_remove.1 := Or.inl (gh_in 543 (by decide +kernel) rfl)
theorem lL_58 : gh_ML "RatchetGroupLaw" 58 mL_update.1 := Or.inl (gh_in 547 (by decide +kernel) rfl)
theorem lL_24 : gh_ML "RatchetGroupLaw" 24 mG_update.1 := Or.inl (gh_in 550 (by decide +kernel) rfl)
theorem lG_106 : gh_ML "RatchetGroup" 106 mB_keepUpdate.1 := Or.inl (gh_in 554 (by decide +kernel) rfl)
theorem lL_61 : gh_ML "RatchetGroupLaw" 61 mL_commit.1 := Or.inl (gh_in 558 (by decide +kernel) rfl)
theorem lL_27 : gh_ML "RatchetGroupLaw" 27 mG_commit.1 := Or.inl (gh_in 561 (by decide +kernel) rfl)
theorem lG_116 : gh_ML "RatchetGroup" 116 mT_init1.1 := Or.inl (gh_in 565 (by decide +kernel) rfl)
theorem lT_31 : gh_ML "RatchetGroup$Tree" 31 mA_copyOf1.1 := Or.inl (gh_in 568 (by decide +kernel) rfl)
theorem lG_119 : gh_ML "RatchetGroup" 119 mS_ruleCount.1 := Or.inl (gh_in 576 (by decide +kernel) rfl)
theorem lG_122 : gh_ML "RatchetGroup" 122 mG_doRemoves.1 := Or.inl (gh_in 580 (by decide +kernel) rfl)
theorem lG_236 : gh_ML "RatchetGroup" 236 mT_blankLeafAndPath.1 := Or.inl (gh_in 584 (by decide +kernel) rfl)
theorem lT_43 : gh_ML "RatchetGroup$Tree" 43 mG_pathNode.1 := Or.inr ⟨"RatchetGroup", List.mem_of_getElem? (i := 7) rfl⟩
theorem lT_47 : gh_ML "RatchetGroup$Tree" 47 mT_blank.1 := Or.inl (gh_in 591 (by decide +kernel) rfl)
theorem lT_39 : gh_ML "RatchetGroup$Tree" 39 mT_give.1 := Or.inl (gh_in 595 (by decide +kernel) rfl)
theorem lG_242 : gh_ML "RatchetGroup" 242 mG_dismiss.1 := Or.inl (gh_in 596 (by decide +kernel) rfl)
theorem lG_248 : gh_ML "RatchetGroup" 248 mB_leave.1 := Or.inl (gh_in 600 (by decide +kernel) rfl)
theorem lG_245 : gh_ML "RatchetGroup" 245 mT_shrink.1 := Or.inl (gh_in 601 (by decide +kernel) rfl)
theorem lT_58 : gh_ML "RatchetGroup$Tree" 58 mT_firstLeafWithKey.1 := Or.inl (gh_in 605 (by decide +kernel) rfl)
theorem lT_61 : gh_ML "RatchetGroup$Tree" 61 mG_leafNode.1 := Or.inr ⟨"RatchetGroup", List.mem_of_getElem? (i := 8) rfl⟩
theorem lT_51 : gh_ML "RatchetGroup$Tree" 51 mT_keyOf.1 := Or.inl (gh_in 610 (by decide +kernel) rfl)
theorem lG_126 : gh_ML "RatchetGroup" 126 mG_doUpdates.1 := Or.inl (gh_in 611 (by decide +kernel) rfl)
theorem lG_129 : gh_ML "RatchetGroup" 129 mG_doAdds.1 := Or.inl (gh_in 615 (by decide +kernel) rfl)
theorem lG_254 : gh_ML "RatchetGroup" 254 mG_mayBeAdded.1 := Or.inl (gh_in 619 (by decide +kernel) rfl)
theorem lG_266 : gh_ML "RatchetGroup" 266 mG_hasLeaf.1 := Or.inl (gh_in 623 (by decide +kernel) rfl)
theorem lG_258 : gh_ML "RatchetGroup" 258 mG_addBy.1 := Or.inl (gh_in 627 (by decide +kernel) rfl)
theorem lG_269 : gh_ML "RatchetGroup" 269 mT_makeRoom.1 := Or.inl (gh_in 631 (by decide +kernel) rfl)
theorem lG_275 : gh_ML "RatchetGroup" 275 mT_markUnmerged.1 := Or.inl (gh_in 635 (by decide +kernel) rfl)
theorem lG_141 : gh_ML "RatchetGroup" 141 mG_makePath.1 := Or.inl (gh_in 639 (by decide +kernel) rfl)
theorem lG_279 : gh_ML "RatchetGroup" 279 mG_pathNode.1 := Or.inl (gh_in 643 (by decide +kernel) rfl)
theorem lG_282 : gh_ML "RatchetGroup" 282 mG_sideNode.1 := Or.inl (gh_in 644 (by decide +kernel) rfl)
theorem lG_285 : gh_ML "RatchetGroup" 285 mT_blank.1 := Or.inl (gh_in 647 (by decide +kernel) rfl)
theorem lG_288 : gh_ML "RatchetGroup" 288 mS_derive.1 := Or.inl (gh_in 648 (by decide +kernel) rfl)
theorem lS_35 : gh_ML "RatchetGroup$Secrets" 35 mS_deriveOfTwo.1 := Or.inl (gh_in 652 (by decide +kernel) rfl)
theorem lS_39 : gh_ML "RatchetGroup$Secrets" 39 mS_fresh.1 := Or.inl (gh_in 656 (by decide +kernel) rfl)
theorem lS_43 : gh_ML "RatchetGroup$Secrets" 43 mS_tie.1 := Or.inl (gh_in 657 (by decide +kernel) rfl)
theorem lS_50 : gh_ML "RatchetGroup$Secrets" 50 mA_copyOf1.1 := Or.inl (gh_in 661 (by decide +kernel) rfl)
theorem lG_291 : gh_ML "RatchetGroup" 291 mG_leafNodes.1 := Or.inl (gh_in 662 (by decide +kernel) rfl)
theorem lG_294 : gh_ML "RatchetGroup" 294 mG_sendToNodes.1 := Or.inl (gh_in 663 (by decide +kernel) rfl)
theorem lG_302 : gh_ML "RatchetGroup" 302 mG_encrypt.1 := Or.inl (gh_in 667 (by decide +kernel) rfl)
theorem lG_311 : gh_ML "RatchetGroup" 311 mS_tie.1 := Or.inl (gh_in 671 (by decide +kernel) rfl)
theorem lG_298 : gh_ML "RatchetGroup" 298 mG_sendToAdded.1 := Or.inl (gh_in 672 (by decide +kernel) rfl)
theorem lG_145 : gh_ML "RatchetGroup" 145 mG_openEpoch.1 := Or.inl (gh_in 676 (by decide +kernel) rfl)
theorem lG_308 : gh_ML "RatchetGroup" 308 mS_deriveOfTwo.1 := Or.inl (gh_in 680 (by decide +kernel) rfl)
theorem lG_149 : gh_ML "RatchetGroup" 149 mB_moveByCommit.1 := Or.inl (gh_in 681 (by decide +kernel) rfl)
theorem lB_59 : gh_ML "RatchetGroup$Member" 59 mB_dropOldKeys.1 := Or.inl (gh_in 685 (by decide +kernel) rfl)
theorem lB_86 : gh_ML "RatchetGroup$Member" 86 mG_pathNode.1 := Or.inr ⟨"RatchetGroup", List.mem_of_getElem? (i := 9) rfl⟩
theorem lB_63 : gh_ML "RatchetGroup$Member" 63 mE_lowestCounting.1 := Or.inl (gh_in 690 (by decide +kernel) rfl)
theorem lE_33 : gh_ML "RatchetGroup$Epoch" 33 mG_pathNode.1 := Or.inr ⟨"RatchetGroup", List.mem_of_getElem? (i := 10) rfl⟩
theorem lE_37 : gh_ML "RatchetGroup$Epoch" 37 mG_bit.1 := Or.inr ⟨"RatchetGroup", List.mem_of_getElem? (i := 11) rfl⟩
theorem lB_66 : gh_ML "RatchetGroup$Member" 66 mB_learnPath.1 := Or.inl (gh_in 696 (by decide +kernel) rfl)
theorem lB_99 : gh_ML "RatchetGroup$Member" 99 mH_max.1 := Or.inl (gh_in 700 (by decide +kernel) rfl)
theorem lB_73 : gh_ML "RatchetGroup$Member" 73 mG_bit.1 := Or.inr ⟨"RatchetGroup", List.mem_of_getElem? (i := 12) rfl⟩
theorem lG_155 : gh_ML "RatchetGroup" 155 mS_spread.1 := Or.inl (gh_in 704 (by decide +kernel) rfl)
theorem lS_53 : gh_ML "RatchetGroup$Secrets" 53 mH_max.1 := Or.inl (gh_in 708 (by decide +kernel) rfl)
theorem lS_58 : gh_ML "RatchetGroup$Secrets" 58 mS_isOut.1 := Or.inl (gh_in 709 (by decide +kernel) rfl)
theorem lS_62 : gh_ML "RatchetGroup$Secrets" 62 mS_learn.1 := Or.inl (gh_in 710 (by decide +kernel) rfl)
theorem lL_65 : gh_ML "RatchetGroupLaw" 65 mL_come.1 := Or.inl (gh_in 714 (by decide +kernel) rfl)
theorem lL_31 : gh_ML "RatchetGroupLaw" 31 mG_come.1 := Or.inl (gh_in 717 (by decide +kernel) rfl)
theorem lG_164 : gh_ML "RatchetGroup" 164 mB_follow.1 := Or.inl (gh_in 721 (by decide +kernel) rfl)
theorem lB_79 : gh_ML "RatchetGroup$Member" 79 mB_canOpen.1 := Or.inl (gh_in 725 (by decide +kernel) rfl)
theorem lB_90 : gh_ML "RatchetGroup$Member" 90 mT_resolution.1 := Or.inl (gh_in 729 (by decide +kernel) rfl)
theorem lB_96 : gh_ML "RatchetGroup$Member" 96 mG_leafNodes.1 := Or.inr ⟨"RatchetGroup", List.mem_of_getElem? (i := 13) rfl⟩
theorem lG_167 : gh_ML "RatchetGroup" 167 mG_earliestWelcome.1 := Or.inl (gh_in 731 (by decide +kernel) rfl)
theorem lG_171 : gh_ML "RatchetGroup" 171 mG_joinBy.1 := Or.inl (gh_in 735 (by decide +kernel) rfl)
theorem lG_318 : gh_ML "RatchetGroup" 318 mE_lowestCounting.1 := Or.inl (gh_in 739 (by decide +kernel) rfl)
theorem lG_321 : gh_ML "RatchetGroup" 321 mB_learnPath.1 := Or.inl (gh_in 740 (by decide +kernel) rfl)
theorem lL_68 : gh_ML "RatchetGroupLaw" 68 mL_compromise.1 := Or.inl (gh_in 741 (by decide +kernel) rfl)
theorem lL_34 : gh_ML "RatchetGroupLaw" 34 mG_compromise.1 := Or.inl (gh_in 744 (by decide +kernel) rfl)
theorem lG_178 : gh_ML "RatchetGroup" 178 mS_learn.1 := Or.inl (gh_in 748 (by decide +kernel) rfl)
theorem lL_40 : gh_ML "RatchetGroupLaw" 40 mR_init.1 := Or.inl (gh_in 751 (by decide +kernel) rfl)
theorem oR_1 : Cond.methodLink "RatchetGroupModel" 1 objectInit ∈ gh_T := (gh_in 754 (by decide +kernel) rfl)
theorem lR_143 : gh_ML "RatchetGroupModel" 143 mR_make.1 := Or.inl (gh_in 755 (by decide +kernel) rfl)
theorem lR_147 : gh_ML "RatchetGroupModel" 147 mR_leave.1 := Or.inl (gh_in 759 (by decide +kernel) rfl)
theorem lL_47 : gh_ML "RatchetGroupLaw" 47 mR_thrown.1 := Or.inl (gh_in 921 (by decide +kernel) rfl)
theorem lL_46 : gh_ML "RatchetGroupLaw" 46 mR_offer.1 := Or.inl (gh_in 925 (by decide +kernel) rfl)
theorem lR_264 : gh_ML "RatchetGroupModel" 264 mR_in.1 := Or.inl (gh_in 929 (by decide +kernel) rfl)
theorem lL_54 : gh_ML "RatchetGroupLaw" 54 mR_add.1 := Or.inl (gh_in 932 (by decide +kernel) rfl)
theorem lR_270 : gh_ML "RatchetGroupModel" 270 mR_isAsked.1 := Or.inl (gh_in 936 (by decide +kernel) rfl)
theorem lR_267 : gh_ML "RatchetGroupModel" 267 mR_isLatest.1 := Or.inl (gh_in 940 (by decide +kernel) rfl)
theorem lR_274 : gh_ML "RatchetGroupModel" 274 mR_propose.1 := Or.inl (gh_in 944 (by decide +kernel) rfl)
theorem lL_57 : gh_ML "RatchetGroupLaw" 57 mR_remove.1 := Or.inl (gh_in 948 (by decide +kernel) rfl)
theorem lL_60 : gh_ML "RatchetGroupLaw" 60 mR_update.1 := Or.inl (gh_in 952 (by decide +kernel) rfl)
theorem lL_64 : gh_ML "RatchetGroupLaw" 64 mR_commit.1 := Or.inl (gh_in 956 (by decide +kernel) rfl)
theorem lR_277 : gh_ML "RatchetGroupModel" 277 mR_change.1 := Or.inl (gh_in 960 (by decide +kernel) rfl)
theorem lR_236 : gh_ML "RatchetGroupModel" 236 mR_copyTree.1 := Or.inl (gh_in 964 (by decide +kernel) rfl)
theorem lR_192 : gh_ML "RatchetGroupModel" 192 mR_width.1 := Or.inl (gh_in 968 (by decide +kernel) rfl)
theorem lR_239 : gh_ML "RatchetGroupModel" 239 mR_findRemoves.1 := Or.inl (gh_in 972 (by decide +kernel) rfl)
theorem lR_242 : gh_ML "RatchetGroupModel" 242 mR_findUpdates.1 := Or.inl (gh_in 976 (by decide +kernel) rfl)
theorem lR_245 : gh_ML "RatchetGroupModel" 245 mR_doRemoves.1 := Or.inl (gh_in 980 (by decide +kernel) rfl)
theorem lR_172 : gh_ML "RatchetGroupModel" 172 mR_blank.1 := Or.inl (gh_in 984 (by decide +kernel) rfl)
theorem lR_198 : gh_ML "RatchetGroupModel" 198 mR_blankPath.1 := Or.inl (gh_in 988 (by decide +kernel) rfl)
theorem lR_168 : gh_ML "RatchetGroupModel" 168 mR_above.1 := Or.inl (gh_in 992 (by decide +kernel) rfl)
theorem lR_201 : gh_ML "RatchetGroupModel" 201 mR_isRightBlank.1 := Or.inl (gh_in 995 (by decide +kernel) rfl)
theorem lR_248 : gh_ML "RatchetGroupModel" 248 mR_doUpdates.1 := Or.inl (gh_in 999 (by decide +kernel) rfl)
theorem lR_204 : gh_ML "RatchetGroupModel" 204 mR_set.1 := Or.inl (gh_in 1003 (by decide +kernel) rfl)
theorem lR_251 : gh_ML "RatchetGroupModel" 251 mR_doAdds.1 := Or.inl (gh_in 1007 (by decide +kernel) rfl)
theorem lR_211 : gh_ML "RatchetGroupModel" 211 mR_mayAdd.1 := Or.inl (gh_in 1011 (by decide +kernel) rfl)
theorem lR_208 : gh_ML "RatchetGroupModel" 208 mR_leafOf.1 := Or.inl (gh_in 1015 (by decide +kernel) rfl)
theorem lR_215 : gh_ML "RatchetGroupModel" 215 mR_freeLeaf.1 := Or.inl (gh_in 1019 (by decide +kernel) rfl)
theorem lR_254 : gh_ML "RatchetGroupModel" 254 mR_renew.1 := Or.inl (gh_in 1023 (by decide +kernel) rfl)
theorem lR_218 : gh_ML "RatchetGroupModel" 218 mR_resolve.1 := Or.inl (gh_in 1027 (by decide +kernel) rfl)
theorem lR_179 : gh_ML "RatchetGroupModel" 179 mR_height.1 := Or.inl (gh_in 1031 (by decide +kernel) rfl)
theorem lR_221 : gh_ML "RatchetGroupModel" 221 mR_of.1 := Or.inl (gh_in 1034 (by decide +kernel) rfl)
theorem lR_224 : gh_ML "RatchetGroupModel" 224 mR_encrypt.1 := Or.inl (gh_in 1038 (by decide +kernel) rfl)
theorem lR_257 : gh_ML "RatchetGroupModel" 257 mR_welcome.1 := Or.inl (gh_in 1042 (by decide +kernel) rfl)
theorem lR_227 : gh_ML "RatchetGroupModel" 227 mR_meeting.1 := Or.inl (gh_in 1046 (by decide +kernel) rfl)
theorem lR_260 : gh_ML "RatchetGroupModel" 260 mR_advance.1 := Or.inl (gh_in 1050 (by decide +kernel) rfl)
theorem lR_230 : gh_ML "RatchetGroupModel" 230 mR_keep.1 := Or.inl (gh_in 1054 (by decide +kernel) rfl)
theorem lR_233 : gh_ML "RatchetGroupModel" 233 mR_tell.1 := Or.inl (gh_in 1058 (by decide +kernel) rfl)
theorem lL_67 : gh_ML "RatchetGroupLaw" 67 mR_come.1 := Or.inl (gh_in 1062 (by decide +kernel) rfl)
theorem lR_287 : gh_ML "RatchetGroupModel" 287 mR_nextPackage.1 := Or.inl (gh_in 1066 (by decide +kernel) rfl)
theorem lR_290 : gh_ML "RatchetGroupModel" 290 mR_join.1 := Or.inl (gh_in 1070 (by decide +kernel) rfl)
theorem lR_293 : gh_ML "RatchetGroupModel" 293 mR_follow.1 := Or.inl (gh_in 1074 (by decide +kernel) rfl)
theorem lR_281 : gh_ML "RatchetGroupModel" 281 mR_gather.1 := Or.inl (gh_in 1078 (by decide +kernel) rfl)
theorem lR_186 : gh_ML "RatchetGroupModel" 186 mR_hold.1 := Or.inl (gh_in 1082 (by decide +kernel) rfl)
theorem lR_284 : gh_ML "RatchetGroupModel" 284 mR_isHeld.1 := Or.inl (gh_in 1086 (by decide +kernel) rfl)
theorem lL_70 : gh_ML "RatchetGroupLaw" 70 mR_compromise.1 := Or.inl (gh_in 1090 (by decide +kernel) rfl)
theorem lL_74 : gh_ML "RatchetGroupLaw" 74 mR_member.1 := Or.inl (gh_in 1094 (by decide +kernel) rfl)
theorem lL_79 : gh_ML "RatchetGroupLaw" 79 mR_holds.1 := Or.inl (gh_in 1098 (by decide +kernel) rfl)
theorem lL_84 : gh_ML "RatchetGroupLaw" 84 mR_has.1 := Or.inl (gh_in 1102 (by decide +kernel) rfl)
theorem lL_89 : gh_ML "RatchetGroupLaw" 89 mR_node.1 := Or.inl (gh_in 1106 (by decide +kernel) rfl)
theorem lL_93 : gh_ML "RatchetGroupLaw" 93 mR_epoch.1 := Or.inl (gh_in 1110 (by decide +kernel) rfl)
theorem lL_97 : gh_ML "RatchetGroupLaw" 97 mR_epochs.1 := Or.inl (gh_in 1114 (by decide +kernel) rfl)
theorem lL_101 : gh_ML "RatchetGroupLaw" 101 mR_waiting.1 := Or.inl (gh_in 1118 (by decide +kernel) rfl)
theorem lL_105 : gh_ML "RatchetGroupLaw" 105 mR_isKnown.1 := Or.inl (gh_in 1122 (by decide +kernel) rfl)
theorem lR_296 : gh_ML "RatchetGroupModel" 296 mR_intrude.1 := Or.inl (gh_in 1126 (by decide +kernel) rfl)
theorem lR_164 : gh_ML "RatchetGroupModel" 164 mR_follows.1 := Or.inl (gh_in 1130 (by decide +kernel) rfl)
theorem lL_109 : gh_ML "RatchetGroupLaw" 109 mR_isOpen.1 := Or.inl (gh_in 1134 (by decide +kernel) rfl)
theorem lL_113 : gh_ML "RatchetGroupLaw" 113 mR_known.1 := Or.inl (gh_in 1138 (by decide +kernel) rfl)
theorem oo_i : Cond.instanceMethod objectInit ∈ gh_T := gh_in 84 (by decide +kernel) rfl
theorem oo_c : Cond.code objectInit ⟨#[0xb1]⟩ 1 none ∈ gh_T := gh_in 85 (by decide +kernel) rfl
end
